/-! ===== the reference: questions of the screen ===== -/
theorem flw_rowsL {mo wi nd tb : Int} : ∀ (L : List mI) (pw fl : Bool) (rw : List (Int × Int)) (cs col : Int), (flw mo wi nd tb L pw fl rw cs col).2.length ≤ rw.length + 1 + L.length
  | [], _, _, rw, _, _ => by rw [flw]; simp
  | q :: R, pw, fl, rw, cs, col => by
    rw [flw]
    split
    · have := flw_rowsL (mo := mo) (wi := wi) (nd := nd) (tb := tb) R (isWc q.1) true (rw ++ [(col, cs)]) 0 (nd + widF tb nd q.1 q.2.2)
      rw [List.length_append, List.length_singleton] at this
      simp only [List.length_cons]
      omega
    · by_cases h27 : q.1 = 27
      · have := flw_rowsL (mo := mo) (wi := wi) (nd := nd) (tb := tb) R false false (rw ++ [(col + widF tb col q.1 q.2.2, cs)]) 1 0
        rw [List.length_append, List.length_singleton] at this
        simp only [List.length_cons, if_pos h27]
        omega
      · have := flw_rowsL (mo := mo) (wi := wi) (nd := nd) (tb := tb) R (isWc q.1) true rw cs (col + widF tb col q.1 q.2.2)
        simp only [List.length_cons, if_neg h27]
        omega
theorem scr_len {F : mF} (hW : wfF F) : (scr F).1.length ≤ 44 ∧ (scr F).2.length ≤ 45 := by
  have h1 := flw_rowsL (mo := F.2.1) (wi := F.2.2.1) (nd := F.2.2.2.1) (tb := F.2.2.2.2) (its F.1.1 F.1.2.1 F.1.2.2) false false [] 1 0
  have h2 : (its F.1.1 F.1.2.1 F.1.2.2).length ≤ 44 := gth_44 (fo := F.1.2.1) hW.1 hW.2.2.2.2.2.1 (F.1.1.length + 1)
  have h3 := congrArg List.length (flw_kp (mo := F.2.1) (wi := F.2.2.1) (nd := F.2.2.2.1) (tb := F.2.2.2.2) (its F.1.1 F.1.2.1 F.1.2.2) false false [] 1 0)
  rw [List.length_map, List.length_map] at h3
  have e1 : (scr F).1.length = (flw F.2.1 F.2.2.1 F.2.2.2.1 F.2.2.2.2 (its F.1.1 F.1.2.1 F.1.2.2) false false [] 1 0).1.length := rfl
  have e2 : (scr F).2.length = (flw F.2.1 F.2.2.1 F.2.2.2.1 F.2.2.2.2 (its F.1.1 F.1.2.1 F.1.2.2) false false [] 1 0).2.length := rfl
  rw [List.length_nil] at h1
  omega

set_option maxHeartbeats 1000000 in
set_option maxRecDepth 100000 in
theorem lp_X5_pieceOf {t : TX} {l : Launch} {n0 : Nat} {w : mW} {h : Nat} {F : mF} {um sm wp wr ac sz ra rn : Int} {M14 M15 M16 M17 M18 M19 M20 M21 M22 M23 : List Int} {S : mScr} {j1 j2 j3 j4 j5 j6 J7 J8 J9 J10 J11 J12 J13 : List Int} (hr : rM w h F.1.1.length F.1.2.1.length F.1.2.2.length F.2.1 F.2.2.1 F.2.2.2.1 F.2.2.2.2 S.1.length ((S.2.length : Int) - 1) (lastC S.2) um sm wp wr ac sz ra rn (F.1.1 ++ j1) (F.1.2.1.map (fun f => f.1) ++ j2) (F.1.2.1.map (fun f => f.2.1) ++ j3) (F.1.2.1.map (fun f => f.2.2) ++ j4) (F.1.2.2.map (fun q => q.1) ++ j5) (F.1.2.2.map (fun q => q.2) ++ j6) (S.1.map (fun q => q.1) ++ J7) (S.1.map (fun q => q.2.1) ++ J8) (S.1.map (fun q => q.2.2.1) ++ J9) (S.1.map (fun q => q.2.2.2.1) ++ J10) (S.1.map (fun q => q.2.2.2.2) ++ J11) (S.2.map (fun q => q.1) ++ J12) (S.2.map (fun q => q.2) ++ J13) M14 M15 M16 M17 M18 M19 M20 M21 M22 M23) (a g f : Int) (C : Cb t l cX5_pieceOf RX5 6 (some .int) 2 0 0) {Q : Int → Prop} (hQ : RQ t 0 0 (fun r n' w' => n' = n0 ∧ w' = w ∧ ∃ z : Int, r = some (vi z) ∧ Q z)) : ∀ (R P : List mP) (k z : Int), S.1 = P ++ R → k = P.length → Q (lst (fun q : mP => decide (q.2.1 = f ∧ q.1 ≠ 29)) R k z) → J t 0 0 30 [some (vr h), some (vi a), some (vi g), some (vi f), some (vi z), some (vi k)] [] n0 w := by
  have l7 := hr.l7
  have l8 := hr.l8
  have l9 := hr.l9
  have l10 := hr.l10
  have l11 := hr.l11
  have l12 := hr.l12
  have l13 := hr.l13
  simp only [List.length_append, List.length_map] at l7 l8 l9 l10 l11 l12 l13
  intro R
  induction R with
  | nil =>
    intro P k z hP hk hq
    have hl : S.1.length = P.length := by rw [hP]; simp
    refine x_iload C dX5_pieceOf_30 rfl ?_
    refine x_aload_n C dX5_pieceOf_32 rfl ?_
    refine x_get C dX5_pieceOf_33 kfX5_117 hr.o rfl ?_
    refine x_icmp_ge (tgt := 77) C dX5_pieceOf_36 (by decide) (fun c36 => ?_) (fun c36 => absurd c36 (by omega))
    refine x_iload C dX5_pieceOf_77 rfl ?_
    refine x_iret C hQ dX5_pieceOf_79 (Nat.le_refl _) (Nat.le_refl _) ?_
    exact ⟨rfl, rfl, _, rfl, hq⟩
  | cons r R ih =>
    intro P k z hP hk hq
    have hl : S.1.length = P.length + (R.length + 1) := by rw [hP]; simp
    have e7 : (S.1.map (fun q => q.1) ++ J7).getD k.toNat 0 = r.1 := by rw [hP]; exact gmap_at _ P R r J7 hk
    have e8 : (S.1.map (fun q => q.2.1) ++ J8).getD k.toNat 0 = r.2.1 := by rw [hP]; exact gmap_at _ P R r J8 hk
    have e9 : (S.1.map (fun q => q.2.2.1) ++ J9).getD k.toNat 0 = r.2.2.1 := by rw [hP]; exact gmap_at _ P R r J9 hk
    have e10 : (S.1.map (fun q => q.2.2.2.1) ++ J10).getD k.toNat 0 = r.2.2.2.1 := by rw [hP]; exact gmap_at _ P R r J10 hk
    have e11 : (S.1.map (fun q => q.2.2.2.2) ++ J11).getD k.toNat 0 = r.2.2.2.2 := by rw [hP]; exact gmap_at _ P R r J11 hk
    rw [lst] at hq
    refine x_iload C dX5_pieceOf_30 rfl ?_
    refine x_aload_n C dX5_pieceOf_32 rfl ?_
    refine x_get C dX5_pieceOf_33 kfX5_117 hr.o rfl ?_
    refine x_icmp_ge (tgt := 77) C dX5_pieceOf_36 (by decide) (fun c36 => absurd c36 (by omega)) (fun c36 => ?_)
    refine x_aload_n C dX5_pieceOf_39 rfl ?_
    refine x_get C dX5_pieceOf_40 kfX5_41 hr.o rfl ?_
    refine x_iload C dX5_pieceOf_43 rfl ?_
    refine x_iald C dX5_pieceOf_45 hr.a8 (by omega) (by rw [hr.l8]; omega) ?_
    rw [e8]
    refine x_iload_n C dX5_pieceOf_46 rfl ?_
    refine x_icmp_ne (tgt := 67) C dX5_pieceOf_47 (by decide) (fun c47 => ?_) (fun c47 => ?_)
    · refine x_iload C dX5_pieceOf_67 rfl ?_
      refine s_is6_4 C dX5_pieceOf_69 rfl ?_
      refine s_inc6_5 C dX5_pieceOf_71 rfl (by first | (unfold iR; omega) | exact ⟨by omega, by omega⟩) ?_
      refine x_goto (tgt := 30) C dX5_pieceOf_74 (by decide) ?_
      exact ih (P ++ [r]) (k + 1) _ (by rw [hP]; simp) (by simp; omega) (by rw [if_neg (fun h9 => by have h8 := of_decide_eq_true h9; omega)] at hq; exact hq)
    · refine x_aload_n C dX5_pieceOf_50 rfl ?_
      refine x_get C dX5_pieceOf_51 kfX5_38 hr.o rfl ?_
      refine x_iload C dX5_pieceOf_54 rfl ?_
      refine x_iald C dX5_pieceOf_56 hr.a7 (by omega) (by rw [hr.l7]; omega) ?_
      rw [e7]
      refine x_bipush C dX5_pieceOf_57 ⟨by decide, by decide⟩ ?_
      refine x_icmp_eq (tgt := 67) C dX5_pieceOf_59 (by decide) (fun c59 => ?_) (fun c59 => ?_)
      · refine x_iload C dX5_pieceOf_67 rfl ?_
        refine s_is6_4 C dX5_pieceOf_69 rfl ?_
        refine s_inc6_5 C dX5_pieceOf_71 rfl (by first | (unfold iR; omega) | exact ⟨by omega, by omega⟩) ?_
        refine x_goto (tgt := 30) C dX5_pieceOf_74 (by decide) ?_
        exact ih (P ++ [r]) (k + 1) _ (by rw [hP]; simp) (by simp; omega) (by rw [if_neg (fun h9 => by have h8 := of_decide_eq_true h9; omega)] at hq; exact hq)
      · refine x_iload C dX5_pieceOf_62 rfl ?_
        refine x_goto (tgt := 69) C dX5_pieceOf_64 (by decide) ?_
        refine s_is6_4 C dX5_pieceOf_69 rfl ?_
        refine s_inc6_5 C dX5_pieceOf_71 rfl (by first | (unfold iR; omega) | exact ⟨by omega, by omega⟩) ?_
        refine x_goto (tgt := 30) C dX5_pieceOf_74 (by decide) ?_
        exact ih (P ++ [r]) (k + 1) _ (by rw [hP]; simp) (by simp; omega) (by rw [if_pos (decide_eq_true ⟨by omega, by omega⟩)] at hq; exact hq)

set_option maxHeartbeats 1000000 in
set_option maxRecDepth 100000 in
theorem c_X5_pieceOf (l : Launch) {w : mW} {h : Nat} {F : mF} {um sm wp wr ac sz ra rn : Int} {M14 M15 M16 M17 M18 M19 M20 M21 M22 M23 : List Int} (hN : isNs w h F (scr F) um sm wp wr ac sz ra rn M14 M15 M16 M17 M18 M19 M20 M21 M22 M23) (hW : wfF F) (a : Int) : Cp l yX5_pieceOf cX5_pieceOf 6 (some .int) 2 [vr h, vi a] w (fun z => (z = -4 ↔ itmP F a < 0) ∧ (z ≠ -4 → z = itmP F a ∧ 0 ≤ z ∧ z < (scr F).1.length)) := by
  refine Cp.of (ml := [some (vr h), some (vi a), none, none, none, none]) kyX5_pieceOf rfl (Nat.le_of_ble_eq_true rfl) rfl ?_
  intro t n C hQ
  obtain ⟨j1, j2, j3, j4, j5, j6, J7, J8, J9, J10, J11, J12, J13, hr⟩ := hN
  obtain ⟨f1, f2, f3, f4, f5, f6, f7, f8, f9, f10, f11, f12⟩ := id hW
  have hw : ∀ f ∈ F.1.2.1, (0 ≤ f.1 ∧ f.1 ≤ 100) ∧ (0 ≤ f.2.1 ∧ f.2.1 ≤ 100) ∧ (f.2.2 = 0 ∨ f.2.2 = 1) := fun f hf9 => by have := f4 f hf9; omega
  have l2 := hr.l2
  simp only [List.length_append, List.length_map] at l2
  refine x_aload_n C dX5_pieceOf_0 rfl ?_
  refine x_iload_n C dX5_pieceOf_1 rfl ?_
  refine y_p1 C dX5_pieceOf_2 kyX5_shutOf knX5_shutOf kmX5_113 hr.o (c_X5_shutOf l hr hw f5 a) (by decide) (Nat.zero_le _) (Nat.zero_le _) (Nat.le_of_ble_eq_true rfl) (fun z2 q2 => ?_)
  subst q2
  have hc := fI4_c (pS a) F.1.2.1
  refine s_ist6_2 C dX5_pieceOf_5 rfl ?_
  refine x_iload_n C dX5_pieceOf_6 rfl ?_
  refine x_bipush C dX5_pieceOf_7 ⟨by decide, by decide⟩ ?_
  refine x_icmp_ne (tgt := 16) C dX5_pieceOf_9 (by decide) (fun c9 => ?_) (fun c9 => ?_)
  · have hc := hc.resolve_left (fun h9 => c9 h9.1)
    obtain ⟨x9, ex1, ex2⟩ := hc.2.2.2 (fun f => f.1) j2
    refine x_aload_n C dX5_pieceOf_16 rfl ?_
    refine x_get C dX5_pieceOf_17 kfX5_13 hr.o rfl ?_
    refine x_iload_n C dX5_pieceOf_20 rfl ?_
    refine x_iald C dX5_pieceOf_21 hr.a2 (by omega) (by rw [hr.l2]; omega) ?_
    rw [ex2]
    have hh : hold F.1.2.1 a = x9.1 := by unfold hold; rw [ex1]
    refine s_ist6_3 C dX5_pieceOf_22 rfl ?_
    refine x_bipush C dX5_pieceOf_23 ⟨by decide, by decide⟩ ?_
    refine s_is6_4 C dX5_pieceOf_25 rfl ?_
    refine x_iconst C dX5_pieceOf_27 ⟨by decide, by decide⟩ ?_
    refine s_is6_5 C dX5_pieceOf_28 rfl ?_
    rw [← hh]
    have hiq : itmP F a = fIdx (fun q : mP => decide (q.2.1 = hold F.1.2.1 a ∧ q.1 ≠ 29)) (scr F).1 0 := by rfl
    refine lp_X5_pieceOf hr a _ (hold F.1.2.1 a) C hQ (scr F).1 [] 0 (-4) rfl rfl ?_
    rw [lst4 (scr_pw F (hold F.1.2.1 a))]
    have hi9 := fI4_i (fun q : mP => decide (q.2.1 = hold F.1.2.1 a ∧ q.1 ≠ 29)) (scr F).1
    have hc9 := fI4_c (fun q : mP => decide (q.2.1 = hold F.1.2.1 a ∧ q.1 ≠ 29)) (scr F).1
    rw [hiq]
    refine ⟨hi9.1, fun h9 => ⟨(hi9.2 h9).1, ?_⟩⟩
    have hc8 := hc9.resolve_left (fun h8 => h9 h8.1)
    exact ⟨hc8.1, hc8.2.1⟩
  · refine x_iload_n C dX5_pieceOf_12 rfl ?_
    refine x_goto (tgt := 22) C dX5_pieceOf_13 (by decide) ?_
    have hh : hold F.1.2.1 a = a := by
      unfold hold
      rcases hc with hc | hc
      · rw [hc.2]
      · omega
    refine s_ist6_3 C dX5_pieceOf_22 rfl ?_
    refine x_bipush C dX5_pieceOf_23 ⟨by decide, by decide⟩ ?_
    refine s_is6_4 C dX5_pieceOf_25 rfl ?_
    refine x_iconst C dX5_pieceOf_27 ⟨by decide, by decide⟩ ?_
    refine s_is6_5 C dX5_pieceOf_28 rfl ?_
    have hiq : itmP F a = fIdx (fun q : mP => decide (q.2.1 = a ∧ q.1 ≠ 29)) (scr F).1 0 := by unfold itmP; rw [hh]
    refine lp_X5_pieceOf hr a _ (a) C hQ (scr F).1 [] 0 (-4) rfl rfl ?_
    rw [lst4 (scr_pw F (a))]
    have hi9 := fI4_i (fun q : mP => decide (q.2.1 = a ∧ q.1 ≠ 29)) (scr F).1
    have hc9 := fI4_c (fun q : mP => decide (q.2.1 = a ∧ q.1 ≠ 29)) (scr F).1
    rw [hiq]
    refine ⟨hi9.1, fun h9 => ⟨(hi9.2 h9).1, ?_⟩⟩
    have hc8 := hc9.resolve_left (fun h8 => h9 h8.1)
    exact ⟨hc8.1, hc8.2.1⟩

set_option maxHeartbeats 1000000 in
set_option maxRecDepth 100000 in
theorem c_X5_stands (l : Launch) {w : mW} {h : Nat} {D : mD} (hM : isM w h D) (hD : wfD D) (p q : Int) : Ci l yX5_stands cX5_stands 4 (some .int) 4 [vr h, vi p, vi q] w (fun z w' => z = q_stands D.F p q ∧ isM w' h D ∧ frR w w' h (h + 23)) := by
  refine Ci.of (ml := [some (vr h), some (vi p), some (vi q), none]) kyX5_stands rfl (Nat.le_of_ble_eq_true rfl) rfl ?_
  intro t n C hQ
  have hM2 := hM
  obtain ⟨wp, wr, ac, ra, rn, M14, M15, M16, M17, M18, M19, M20, M21, M22, M23, hN, hU, hK, hlU, hlK, ⟨jt, ht⟩, hO⟩ := hM
  have hfA : frR w w h (h + 23) := frR.rf
  have hN2 := hN
  obtain ⟨j1, j2, j3, j4, j5, j6, pi, lr, lc, M7, M8, M9, M10, M11, M12, M13, hr⟩ := hN
  obtain ⟨f1, f2, f3, f4, f5, f6, f7, f8, f9, f10, f11, f12⟩ := id hD.2.1
  have hw : ∀ f ∈ D.F.1.2.1, (0 ≤ f.1 ∧ f.1 ≤ 100) ∧ (0 ≤ f.2.1 ∧ f.2.1 ≤ 100) ∧ (f.2.2 = 0 ∨ f.2.2 = 1) := fun f hf9 => by have := f4 f hf9; omega
  have hsm := hD.2.1.sm
  have hwT := (wfF_iff D.F).mp hD.2.1
  refine x_aload_n C dX5_stands_0 rfl ?_
  refine x_iload_n C dX5_stands_1 rfl ?_
  refine y_p1 C dX5_stands_2 kyX5_isPlace knX5_isPlace kmX5_153 hr.o (c_X5_isPlace l hr p) (by decide) (Nat.zero_le _) (Nat.zero_le _) (Nat.le_of_ble_eq_true rfl) (fun z2 q2 => ?_)
  refine x_if_eq (tgt := 17) C dX5_stands_5 (by decide) (fun c5 => ?_) (fun c5 => ?_)
  · refine x_iconst C dX5_stands_17 ⟨by decide, by decide⟩ ?_
    refine x_iret C hQ dX5_stands_18 (Nat.le_refl _) (Nat.le_refl _) ?_
    exact ⟨rfl, _, rfl, by unfold q_stands; (repeat' split) <;> omega, hM2, frR.rf⟩
  · refine x_iload_n C dX5_stands_8 rfl ?_
    refine x_iconst C dX5_stands_9 ⟨by decide, by decide⟩ ?_
    refine x_iconst C dX5_stands_10 ⟨by decide, by decide⟩ ?_
    refine z_p3 C dX5_stands_11 kyX5_in ksX5_in kmX5_103 (c_X5_in l q 0 2) (by decide) (Nat.zero_le _) (Nat.zero_le _) (Nat.le_of_ble_eq_true rfl) (fun z11 q11 => ?_)
    refine x_if_ne (tgt := 19) C dX5_stands_14 (by decide) (fun c14 => ?_) (fun c14 => ?_)
    · refine x_aload_n C dX5_stands_19 rfl ?_
      refine y_v0 C dX5_stands_20 kyX5_setScreen knX5_setScreen kmX5_150 hr.o (c_X5_setScreen l hN2 hD.2.1) (by decide) (Nat.zero_le _) (Nat.zero_le _) (Nat.le_of_ble_eq_true rfl) (fun w20 q20 => ?_)
      obtain ⟨hNs, hf9⟩ := q20
      have hfA := hfA.tr hf9
      have hN2 := hNs.n
      obtain ⟨j1, j2, j3, j4, j5, j6, J7, J8, J9, J10, J11, J12, J13, hr⟩ := id hNs
      have l7 := hr.l7
      have l8 := hr.l8
      have l9 := hr.l9
      have l10 := hr.l10
      have l11 := hr.l11
      have l12 := hr.l12
      have l13 := hr.l13
      simp only [List.length_append, List.length_map] at l7 l8 l9 l10 l11 l12 l13
      refine x_aload_n C dX5_stands_23 rfl ?_
      refine x_iload_n C dX5_stands_24 rfl ?_
      refine y_p1 C dX5_stands_25 kyX5_pieceOf knX5_pieceOf kmX5_217 hr.o (c_X5_pieceOf l hNs hD.2.1 p) (by decide) (Nat.zero_le _) (Nat.zero_le _) (Nat.le_of_ble_eq_true rfl) (fun z25 q25 => ?_)
      refine s_ist4_3 C dX5_stands_28 rfl ?_
      refine x_iload_n C dX5_stands_29 rfl ?_
      refine x_iconst C dX5_stands_30 ⟨by decide, by decide⟩ ?_
      refine x_icmp_ne (tgt := 48) C dX5_stands_31 (by decide) (fun c31 => ?_) (fun c31 => ?_)
      · refine x_iload_n C dX5_stands_48 rfl ?_
        refine x_if_ne (tgt := 74) C dX5_stands_49 (by decide) (fun c49 => ?_) (fun c49 => ?_)
        · refine x_iload_n C dX5_stands_74 rfl ?_
          refine x_bipush C dX5_stands_75 ⟨by decide, by decide⟩ ?_
          refine x_icmp_ne (tgt := 87) C dX5_stands_77 (by decide) (fun c77 => ?_) (fun c77 => ?_)
          · have hz := (q25.2 c77).2
            refine x_aload_n C dX5_stands_87 rfl ?_
            refine x_get C dX5_stands_88 kfX5_47 hr.o rfl ?_
            refine x_iload_n C dX5_stands_91 rfl ?_
            refine x_iald C dX5_stands_92 hr.a10 (by omega) (by rw [hr.l10]; omega) ?_
            refine x_iret C hQ dX5_stands_93 (Nat.le_refl _) (Nat.le_refl _) ?_
            exact ⟨rfl, _, rfl, by rw [q_stands, if_neg (by omega), if_neg (by omega), if_pos (by omega), colP, if_neg (fun h9 => c77 (q25.1.mpr h9)), ← (q25.2 c77).1]; exact gd_app_l (by rw [List.length_map]; omega), ⟨_, _, _, _, _, _, _, _, _, _, _, _, _, _, _, hN2, hU, hK, hlU, hlK, ⟨jt, ht⟩, hO⟩, hfA⟩
          · refine x_aload_n C dX5_stands_80 rfl ?_
            refine x_get C dX5_stands_81 kfX5_147 hr.o rfl ?_
            refine x_goto (tgt := 93) C dX5_stands_84 (by decide) ?_
            refine x_iret C hQ dX5_stands_93 (Nat.le_refl _) (Nat.le_refl _) ?_
            exact ⟨rfl, _, rfl, by rw [q_stands, if_neg (by omega), if_neg (by omega), if_pos (by omega), colP, if_pos (q25.1.mp c77)], ⟨_, _, _, _, _, _, _, _, _, _, _, _, _, _, _, hN2, hU, hK, hlU, hlK, ⟨jt, ht⟩, hO⟩, hfA⟩
        · refine x_iload_n C dX5_stands_52 rfl ?_
          refine x_bipush C dX5_stands_53 ⟨by decide, by decide⟩ ?_
          refine x_icmp_ne (tgt := 65) C dX5_stands_55 (by decide) (fun c55 => ?_) (fun c55 => ?_)
          · have hz := (q25.2 c55).2
            refine x_aload_n C dX5_stands_65 rfl ?_
            refine x_get C dX5_stands_66 kfX5_44 hr.o rfl ?_
            refine x_iload_n C dX5_stands_69 rfl ?_
            refine x_iald C dX5_stands_70 hr.a9 (by omega) (by rw [hr.l9]; omega) ?_
            refine x_goto (tgt := 93) C dX5_stands_71 (by decide) ?_
            refine x_iret C hQ dX5_stands_93 (Nat.le_refl _) (Nat.le_refl _) ?_
            exact ⟨rfl, _, rfl, by rw [q_stands, if_neg (by omega), if_pos (by omega), rowP, if_neg (fun h9 => c55 (q25.1.mpr h9)), ← (q25.2 c55).1]; exact gd_app_l (by rw [List.length_map]; omega), ⟨_, _, _, _, _, _, _, _, _, _, _, _, _, _, _, hN2, hU, hK, hlU, hlK, ⟨jt, ht⟩, hO⟩, hfA⟩
          · refine x_aload_n C dX5_stands_58 rfl ?_
            refine x_get C dX5_stands_59 kfX5_144 hr.o rfl ?_
            refine x_goto (tgt := 93) C dX5_stands_62 (by decide) ?_
            refine x_iret C hQ dX5_stands_93 (Nat.le_refl _) (Nat.le_refl _) ?_
            exact ⟨rfl, _, rfl, by rw [q_stands, if_neg (by omega), if_pos (by omega), rowP, if_pos (q25.1.mp c55)], ⟨_, _, _, _, _, _, _, _, _, _, _, _, _, _, _, hN2, hU, hK, hlU, hlK, ⟨jt, ht⟩, hO⟩, hfA⟩
      · refine x_aload_n C dX5_stands_34 rfl ?_
        refine x_iload_n C dX5_stands_35 rfl ?_
        refine y_p1 C dX5_stands_36 kyX5_isShown knX5_isShown kmX5_162 hr.o (c_X5_isShown l hr hw f5 p) (by decide) (Nat.zero_le _) (Nat.zero_le _) (Nat.le_of_ble_eq_true rfl) (fun z36 q36 => ?_)
        refine x_if_eq (tgt := 46) C dX5_stands_39 (by decide) (fun c39 => ?_) (fun c39 => ?_)
        · refine x_iconst C dX5_stands_46 ⟨by decide, by decide⟩ ?_
          refine x_iret C hQ dX5_stands_47 (Nat.le_refl _) (Nat.le_refl _) ?_
          exact ⟨rfl, _, rfl, by unfold q_stands; (repeat' split) <;> omega, ⟨_, _, _, _, _, _, _, _, _, _, _, _, _, _, _, hN2, hU, hK, hlU, hlK, ⟨jt, ht⟩, hO⟩, hfA⟩
        · refine x_iconst C dX5_stands_42 ⟨by decide, by decide⟩ ?_
          refine x_goto (tgt := 47) C dX5_stands_43 (by decide) ?_
          refine x_iret C hQ dX5_stands_47 (Nat.le_refl _) (Nat.le_refl _) ?_
          exact ⟨rfl, _, rfl, by unfold q_stands; (repeat' split) <;> omega, ⟨_, _, _, _, _, _, _, _, _, _, _, _, _, _, _, hN2, hU, hK, hlU, hlK, ⟨jt, ht⟩, hO⟩, hfA⟩
    · refine x_iconst C dX5_stands_17 ⟨by decide, by decide⟩ ?_
      refine x_iret C hQ dX5_stands_18 (Nat.le_refl _) (Nat.le_refl _) ?_
      exact ⟨rfl, _, rfl, by unfold q_stands; (repeat' split) <;> omega, hM2, frR.rf⟩

theorem pC_i {r col : Int} {q : mP} (h : q.2.2.1 = r ∧ q.2.2.2.1 ≤ col ∧ col < q.2.2.2.1 + q.2.2.2.2) : pC r col q = true := by
  unfold pC
  rw [Bool.and_eq_true]
  exact ⟨decide_eq_true h.1, decide_eq_true h.2⟩
theorem pC_t {r col : Int} {q : mP} (h : pC r col q = true) : q.2.2.1 = r ∧ q.2.2.2.1 ≤ col ∧ col < q.2.2.2.1 + q.2.2.2.2 := by
  unfold pC at h
  rw [Bool.and_eq_true] at h
  exact ⟨of_decide_eq_true h.1, of_decide_eq_true h.2⟩

set_option maxHeartbeats 1000000 in
set_option maxRecDepth 100000 in
theorem lp_X5_pieceAt {t : TX} {l : Launch} {n0 : Nat} {w : mW} {h : Nat} {F : mF} {um sm wp wr ac sz ra rn : Int} {M14 M15 M16 M17 M18 M19 M20 M21 M22 M23 : List Int} {S : mScr} {j1 j2 j3 j4 j5 j6 J7 J8 J9 J10 J11 J12 J13 : List Int} (hr : rM w h F.1.1.length F.1.2.1.length F.1.2.2.length F.2.1 F.2.2.1 F.2.2.2.1 F.2.2.2.2 S.1.length ((S.2.length : Int) - 1) (lastC S.2) um sm wp wr ac sz ra rn (F.1.1 ++ j1) (F.1.2.1.map (fun f => f.1) ++ j2) (F.1.2.1.map (fun f => f.2.1) ++ j3) (F.1.2.1.map (fun f => f.2.2) ++ j4) (F.1.2.2.map (fun q => q.1) ++ j5) (F.1.2.2.map (fun q => q.2) ++ j6) (S.1.map (fun q => q.1) ++ J7) (S.1.map (fun q => q.2.1) ++ J8) (S.1.map (fun q => q.2.2.1) ++ J9) (S.1.map (fun q => q.2.2.2.1) ++ J10) (S.1.map (fun q => q.2.2.2.2) ++ J11) (S.2.map (fun q => q.1) ++ J12) (S.2.map (fun q => q.2) ++ J13) M14 M15 M16 M17 M18 M19 M20 M21 M22 M23) (hbd : bdP S.1) (a b : Int) (C : Cb t l cX5_pieceAt RX5 6 (some .int) 0 0 0) {Q : Int → Prop} (hQ : RQ t 0 0 (fun r n' w' => n' = n0 ∧ w' = w ∧ ∃ z : Int, r = some (vi z) ∧ Q z)) : ∀ (R P : List mP) (k z : Int) (x5 : Option mV), S.1 = P ++ R → k = P.length → Q (lst (pC a b) R k z) → J t 0 0 6 [some (vr h), some (vi a), some (vi b), some (vi z), some (vi k), x5] [] n0 w := by
  have l7 := hr.l7
  have l8 := hr.l8
  have l9 := hr.l9
  have l10 := hr.l10
  have l11 := hr.l11
  have l12 := hr.l12
  have l13 := hr.l13
  simp only [List.length_append, List.length_map] at l7 l8 l9 l10 l11 l12 l13
  intro R
  induction R with
  | nil =>
    intro P k z x5 hP hk hq
    have hl : S.1.length = P.length := by rw [hP]; simp
    refine x_iload C dX5_pieceAt_6 rfl ?_
    refine x_aload_n C dX5_pieceAt_8 rfl ?_
    refine x_get C dX5_pieceAt_9 kfX5_117 hr.o rfl ?_
    refine x_icmp_ge (tgt := 81) C dX5_pieceAt_12 (by decide) (fun c12 => ?_) (fun c12 => absurd c12 (by omega))
    refine x_iload_n C dX5_pieceAt_81 rfl ?_
    refine x_iret C hQ dX5_pieceAt_82 (Nat.le_refl _) (Nat.le_refl _) ?_
    exact ⟨rfl, rfl, _, rfl, hq⟩
  | cons r R ih =>
    intro P k z x5 hP hk hq
    have hl : S.1.length = P.length + (R.length + 1) := by rw [hP]; simp
    have hbr := hbd r (by rw [hP]; simp)
    have e7 : (S.1.map (fun q => q.1) ++ J7).getD k.toNat 0 = r.1 := by rw [hP]; exact gmap_at _ P R r J7 hk
    have e8 : (S.1.map (fun q => q.2.1) ++ J8).getD k.toNat 0 = r.2.1 := by rw [hP]; exact gmap_at _ P R r J8 hk
    have e9 : (S.1.map (fun q => q.2.2.1) ++ J9).getD k.toNat 0 = r.2.2.1 := by rw [hP]; exact gmap_at _ P R r J9 hk
    have e10 : (S.1.map (fun q => q.2.2.2.1) ++ J10).getD k.toNat 0 = r.2.2.2.1 := by rw [hP]; exact gmap_at _ P R r J10 hk
    have e11 : (S.1.map (fun q => q.2.2.2.2) ++ J11).getD k.toNat 0 = r.2.2.2.2 := by rw [hP]; exact gmap_at _ P R r J11 hk
    rw [lst] at hq
    refine x_iload C dX5_pieceAt_6 rfl ?_
    refine x_aload_n C dX5_pieceAt_8 rfl ?_
    refine x_get C dX5_pieceAt_9 kfX5_117 hr.o rfl ?_
    refine x_icmp_ge (tgt := 81) C dX5_pieceAt_12 (by decide) (fun c12 => absurd c12 (by omega)) (fun c12 => ?_)
    refine x_aload_n C dX5_pieceAt_15 rfl ?_
    refine x_get C dX5_pieceAt_16 kfX5_44 hr.o rfl ?_
    refine x_iload C dX5_pieceAt_19 rfl ?_
    refine x_iald C dX5_pieceAt_21 hr.a9 (by omega) (by rw [hr.l9]; omega) ?_
    rw [e9]
    refine x_iload_n C dX5_pieceAt_22 rfl ?_
    refine x_icmp_ne (tgt := 60) C dX5_pieceAt_23 (by decide) (fun c23 => ?_) (fun c23 => ?_)
    · refine x_iconst C dX5_pieceAt_60 ⟨by decide, by decide⟩ ?_
      refine s_is6_5 C dX5_pieceAt_61 rfl ?_
      refine x_iload C dX5_pieceAt_63 rfl ?_
      refine x_if_eq (tgt := 73) C dX5_pieceAt_65 (by decide) (fun c65 => ?_) (fun c65 => ?_)
      · refine x_iload_n C dX5_pieceAt_73 rfl ?_
        refine s_ist6_3 C dX5_pieceAt_74 rfl ?_
        refine s_inc6_4 C dX5_pieceAt_75 rfl (by first | (unfold iR; omega) | exact ⟨by omega, by omega⟩) ?_
        refine x_goto (tgt := 6) C dX5_pieceAt_78 (by decide) ?_
        exact ih (P ++ [r]) (k + 1) _ _ (by rw [hP]; simp) (by simp; omega) (by rw [if_neg (fun h9 => by have h8 := pC_t h9; omega)] at hq; exact hq)
      · refine x_iload C dX5_pieceAt_68 rfl ?_
        refine x_goto (tgt := 74) C dX5_pieceAt_70 (by decide) ?_
        refine s_ist6_3 C dX5_pieceAt_74 rfl ?_
        refine s_inc6_4 C dX5_pieceAt_75 rfl (by first | (unfold iR; omega) | exact ⟨by omega, by omega⟩) ?_
        refine x_goto (tgt := 6) C dX5_pieceAt_78 (by decide) ?_
        omega
    · refine x_iload_n C dX5_pieceAt_26 rfl ?_
      refine x_aload_n C dX5_pieceAt_27 rfl ?_
      refine x_get C dX5_pieceAt_28 kfX5_47 hr.o rfl ?_
      refine x_iload C dX5_pieceAt_31 rfl ?_
      refine x_iald C dX5_pieceAt_33 hr.a10 (by omega) (by rw [hr.l10]; omega) ?_
      rw [e10]
      refine x_icmp_lt (tgt := 60) C dX5_pieceAt_34 (by decide) (fun c34 => ?_) (fun c34 => ?_)
      · refine x_iconst C dX5_pieceAt_60 ⟨by decide, by decide⟩ ?_
        refine s_is6_5 C dX5_pieceAt_61 rfl ?_
        refine x_iload C dX5_pieceAt_63 rfl ?_
        refine x_if_eq (tgt := 73) C dX5_pieceAt_65 (by decide) (fun c65 => ?_) (fun c65 => ?_)
        · refine x_iload_n C dX5_pieceAt_73 rfl ?_
          refine s_ist6_3 C dX5_pieceAt_74 rfl ?_
          refine s_inc6_4 C dX5_pieceAt_75 rfl (by first | (unfold iR; omega) | exact ⟨by omega, by omega⟩) ?_
          refine x_goto (tgt := 6) C dX5_pieceAt_78 (by decide) ?_
          exact ih (P ++ [r]) (k + 1) _ _ (by rw [hP]; simp) (by simp; omega) (by rw [if_neg (fun h9 => by have h8 := pC_t h9; omega)] at hq; exact hq)
        · refine x_iload C dX5_pieceAt_68 rfl ?_
          refine x_goto (tgt := 74) C dX5_pieceAt_70 (by decide) ?_
          refine s_ist6_3 C dX5_pieceAt_74 rfl ?_
          refine s_inc6_4 C dX5_pieceAt_75 rfl (by first | (unfold iR; omega) | exact ⟨by omega, by omega⟩) ?_
          refine x_goto (tgt := 6) C dX5_pieceAt_78 (by decide) ?_
          omega
      · refine x_iload_n C dX5_pieceAt_37 rfl ?_
        refine x_aload_n C dX5_pieceAt_38 rfl ?_
        refine x_get C dX5_pieceAt_39 kfX5_47 hr.o rfl ?_
        refine x_iload C dX5_pieceAt_42 rfl ?_
        refine x_iald C dX5_pieceAt_44 hr.a10 (by omega) (by rw [hr.l10]; omega) ?_
        rw [e10]
        refine x_aload_n C dX5_pieceAt_45 rfl ?_
        refine x_get C dX5_pieceAt_46 kfX5_50 hr.o rfl ?_
        refine x_iload C dX5_pieceAt_49 rfl ?_
        refine x_iald C dX5_pieceAt_51 hr.a11 (by omega) (by rw [hr.l11]; omega) ?_
        rw [e11]
        refine x_iadd C dX5_pieceAt_52 (by first | (unfold iR; omega) | exact ⟨by omega, by omega⟩) ?_
        refine x_icmp_ge (tgt := 60) C dX5_pieceAt_53 (by decide) (fun c53 => ?_) (fun c53 => ?_)
        · refine x_iconst C dX5_pieceAt_60 ⟨by decide, by decide⟩ ?_
          refine s_is6_5 C dX5_pieceAt_61 rfl ?_
          refine x_iload C dX5_pieceAt_63 rfl ?_
          refine x_if_eq (tgt := 73) C dX5_pieceAt_65 (by decide) (fun c65 => ?_) (fun c65 => ?_)
          · refine x_iload_n C dX5_pieceAt_73 rfl ?_
            refine s_ist6_3 C dX5_pieceAt_74 rfl ?_
            refine s_inc6_4 C dX5_pieceAt_75 rfl (by first | (unfold iR; omega) | exact ⟨by omega, by omega⟩) ?_
            refine x_goto (tgt := 6) C dX5_pieceAt_78 (by decide) ?_
            exact ih (P ++ [r]) (k + 1) _ _ (by rw [hP]; simp) (by simp; omega) (by rw [if_neg (fun h9 => by have h8 := pC_t h9; omega)] at hq; exact hq)
          · refine x_iload C dX5_pieceAt_68 rfl ?_
            refine x_goto (tgt := 74) C dX5_pieceAt_70 (by decide) ?_
            refine s_ist6_3 C dX5_pieceAt_74 rfl ?_
            refine s_inc6_4 C dX5_pieceAt_75 rfl (by first | (unfold iR; omega) | exact ⟨by omega, by omega⟩) ?_
            refine x_goto (tgt := 6) C dX5_pieceAt_78 (by decide) ?_
            omega
        · refine x_iconst C dX5_pieceAt_56 ⟨by decide, by decide⟩ ?_
          refine x_goto (tgt := 61) C dX5_pieceAt_57 (by decide) ?_
          refine s_is6_5 C dX5_pieceAt_61 rfl ?_
          refine x_iload C dX5_pieceAt_63 rfl ?_
          refine x_if_eq (tgt := 73) C dX5_pieceAt_65 (by decide) (fun c65 => ?_) (fun c65 => ?_)
          · refine x_iload_n C dX5_pieceAt_73 rfl ?_
            refine s_ist6_3 C dX5_pieceAt_74 rfl ?_
            refine s_inc6_4 C dX5_pieceAt_75 rfl (by first | (unfold iR; omega) | exact ⟨by omega, by omega⟩) ?_
            refine x_goto (tgt := 6) C dX5_pieceAt_78 (by decide) ?_
            omega
          · refine x_iload C dX5_pieceAt_68 rfl ?_
            refine x_goto (tgt := 74) C dX5_pieceAt_70 (by decide) ?_
            refine s_ist6_3 C dX5_pieceAt_74 rfl ?_
            refine s_inc6_4 C dX5_pieceAt_75 rfl (by first | (unfold iR; omega) | exact ⟨by omega, by omega⟩) ?_
            refine x_goto (tgt := 6) C dX5_pieceAt_78 (by decide) ?_
            exact ih (P ++ [r]) (k + 1) _ _ (by rw [hP]; simp) (by simp; omega) (by rw [if_pos (pC_i ⟨by omega, by omega, by omega⟩)] at hq; exact hq)

set_option maxHeartbeats 1000000 in
set_option maxRecDepth 100000 in
theorem c_X5_pieceAt (l : Launch) {w : mW} {h : Nat} {F : mF} {um sm wp wr ac sz ra rn : Int} {M14 M15 M16 M17 M18 M19 M20 M21 M22 M23 : List Int} (hN : isNs w h F (scr F) um sm wp wr ac sz ra rn M14 M15 M16 M17 M18 M19 M20 M21 M22 M23) (hW : wfF F) (a b : Int) : Cp l yX5_pieceAt cX5_pieceAt 6 (some .int) 0 [vr h, vi a, vi b] w (fun z => z = fI4 (pC a b) (scr F).1) := by
  refine Cp.of (ml := [some (vr h), some (vi a), some (vi b), none, none, none]) kyX5_pieceAt rfl (Nat.le_of_ble_eq_true rfl) rfl ?_
  intro t n C hQ
  obtain ⟨j1, j2, j3, j4, j5, j6, J7, J8, J9, J10, J11, J12, J13, hr⟩ := hN
  refine x_bipush C dX5_pieceAt_0 ⟨by decide, by decide⟩ ?_
  refine s_ist6_3 C dX5_pieceAt_2 rfl ?_
  refine x_iconst C dX5_pieceAt_3 ⟨by decide, by decide⟩ ?_
  refine s_is6_4 C dX5_pieceAt_4 rfl ?_
  exact lp_X5_pieceAt hr hW.bd a b C hQ (scr F).1 [] 0 (-4) _ rfl rfl (lst4 (scr_pc hW a b))

set_option maxHeartbeats 1000000 in
set_option maxRecDepth 100000 in
theorem c_X5_isRow (l : Launch) {w : mW} {h : Nat} {mn fc hc mo wi nd tb pi lr lc um sm wp wr ac sz ra rn : Int} {M1 M2 M3 M4 M5 M6 M7 M8 M9 M10 M11 M12 M13 M14 M15 M16 M17 M18 M19 M20 M21 M22 M23 : List Int} (hr : rM w h mn fc hc mo wi nd tb pi lr lc um sm wp wr ac sz ra rn M1 M2 M3 M4 M5 M6 M7 M8 M9 M10 M11 M12 M13 M14 M15 M16 M17 M18 M19 M20 M21 M22 M23) (a : Int) : Cp l yX5_isRow cX5_isRow 2 (some .boolean) 1 [vr h, vi a] w (fun z => (z = 0 ∨ z = 1) ∧ (z = 1 ↔ 0 ≤ a ∧ a ≤ lr)) := by
  refine Cp.of (ml := [some (vr h), some (vi a)]) kyX5_isRow rfl (Nat.le_of_ble_eq_true rfl) rfl ?_
  intro t n C hQ
  refine x_iload_n C dX5_isRow_0 rfl ?_
  refine x_iconst C dX5_isRow_1 ⟨by decide, by decide⟩ ?_
  refine x_aload_n C dX5_isRow_2 rfl ?_
  refine x_get C dX5_isRow_3 kfX5_144 hr.o rfl ?_
  refine z_p3 C dX5_isRow_6 kyX5_in ksX5_in kmX5_103 (c_X5_in l a 0 lr) (by decide) (Nat.zero_le _) (Nat.zero_le _) (Nat.le_of_ble_eq_true rfl) (fun z6 q6 => ?_)
  refine x_zret C hQ dX5_isRow_9 (by first | exact Or.inl rfl | exact Or.inr rfl | omega) (Nat.le_refl _) (Nat.le_refl _) ?_
  exact ⟨rfl, rfl, _, rfl, by omega⟩

set_option maxHeartbeats 1000000 in
set_option maxRecDepth 100000 in
theorem lp_X5_placeAt {t : TX} {l : Launch} {n0 : Nat} {w : mW} {h : Nat} {F : mF} {um sm wp wr ac sz ra rn : Int} {M14 M15 M16 M17 M18 M19 M20 M21 M22 M23 : List Int} {S : mScr} {j1 j2 j3 j4 j5 j6 J7 J8 J9 J10 J11 J12 J13 : List Int} (hr : rM w h F.1.1.length F.1.2.1.length F.1.2.2.length F.2.1 F.2.2.1 F.2.2.2.1 F.2.2.2.2 S.1.length ((S.2.length : Int) - 1) (lastC S.2) um sm wp wr ac sz ra rn (F.1.1 ++ j1) (F.1.2.1.map (fun f => f.1) ++ j2) (F.1.2.1.map (fun f => f.2.1) ++ j3) (F.1.2.1.map (fun f => f.2.2) ++ j4) (F.1.2.2.map (fun q => q.1) ++ j5) (F.1.2.2.map (fun q => q.2) ++ j6) (S.1.map (fun q => q.1) ++ J7) (S.1.map (fun q => q.2.1) ++ J8) (S.1.map (fun q => q.2.2.1) ++ J9) (S.1.map (fun q => q.2.2.2.1) ++ J10) (S.1.map (fun q => q.2.2.2.2) ++ J11) (S.2.map (fun q => q.1) ++ J12) (S.2.map (fun q => q.2) ++ J13) M14 M15 M16 M17 M18 M19 M20 M21 M22 M23) (a b c : Int) (C : Cb t l cX5_placeAt RX5 7 (some .int) 1 0 0)  (kx : ∀ fi la : Int, fi = (if fIdx (pW a) S.1 (-1 + 1) < 0 then -4 else fIdx (pW a) S.1 (-1 + 1)) → la = lst (pW a) S.1 (-1 + 1) (-4) → J t 0 0 94 [some (vr h), some (vi a), some (vi b), some (vi c), some (vi fi), some (vi la), some (vi (-1))] [] n0 w) : ∀ (m : Nat) (P R : List mP) (k fi la : Int), P.length = m → S.1 = P ++ R → k = (P.length : Int) - 1 → fi = (if fIdx (pW a) R (k + 1) < 0 then -4 else fIdx (pW a) R (k + 1)) → la = lst (pW a) R (k + 1) (-4) → J t 0 0 36 [some (vr h), some (vi a), some (vi b), some (vi c), some (vi fi), some (vi la), some (vi k)] [] n0 w := by
  have l7 := hr.l7
  have l8 := hr.l8
  have l9 := hr.l9
  have l10 := hr.l10
  have l11 := hr.l11
  have l12 := hr.l12
  have l13 := hr.l13
  simp only [List.length_append, List.length_map] at l7 l8 l9 l10 l11 l12 l13
  intro m
  induction m with
  | zero =>
    intro P R k fi la hm hP hk hfi hla
    have hP0 : P = [] := List.eq_nil_of_length_eq_zero hm
    subst hP0
    simp only [List.length_nil] at hk
    have hk1 : k = -1 := by omega
    subst hk1
    rw [List.nil_append] at hP
    subst hP
    refine x_iload C dX5_placeAt_36 rfl ?_
    refine x_if_lt (tgt := 94) C dX5_placeAt_38 (by decide) (fun c38 => ?_) (fun c38 => absurd c38 (by omega))
    exact kx fi la hfi hla
  | succ m ih =>
    intro P R k fi la hm hP hk hfi hla
    obtain ⟨P0, r, rfl, hP0⟩ := snoc P m hm
    simp only [List.length_append, List.length_cons, List.length_nil] at hk
    have hl : S.1.length = P0.length + 1 + R.length := by rw [hP]; simp; omega
    have hP2 : S.1 = P0 ++ r :: R := by rw [hP]; simp
    have e9 : (S.1.map (fun q => q.2.2.1) ++ J9).getD k.toNat 0 = r.2.2.1 := by rw [hP2]; exact gmap_at _ P0 R r J9 (by omega)
    have ha9 := lst_acc (pW a) R (k + 1)
    have hfn := fIdx_neg (pW a) R (k + 1) (by omega)
    refine x_iload C dX5_placeAt_36 rfl ?_
    refine x_if_lt (tgt := 94) C dX5_placeAt_38 (by decide) (fun c38 => absurd c38 (by omega)) (fun c38 => ?_)
    refine x_aload_n C dX5_placeAt_41 rfl ?_
    refine x_get C dX5_placeAt_42 kfX5_44 hr.o rfl ?_
    refine x_iload C dX5_placeAt_45 rfl ?_
    refine x_iald C dX5_placeAt_47 hr.a9 (by omega) (by rw [hr.l9]; omega) ?_
    rw [e9]
    refine x_iload_n C dX5_placeAt_48 rfl ?_
    refine x_icmp_ne (tgt := 64) C dX5_placeAt_49 (by decide) (fun c49 => ?_) (fun c49 => ?_)
    · refine x_iload C dX5_placeAt_64 rfl ?_
      refine s_is7_5 C dX5_placeAt_66 rfl ?_
      refine x_aload_n C dX5_placeAt_68 rfl ?_
      refine x_get C dX5_placeAt_69 kfX5_44 hr.o rfl ?_
      refine x_iload C dX5_placeAt_72 rfl ?_
      refine x_iald C dX5_placeAt_74 hr.a9 (by omega) (by rw [hr.l9]; omega) ?_
      rw [e9]
      refine x_iload_n C dX5_placeAt_75 rfl ?_
      refine x_icmp_ne (tgt := 84) C dX5_placeAt_76 (by decide) (fun c76 => ?_) (fun c76 => ?_)
      · refine x_iload C dX5_placeAt_84 rfl ?_
        refine s_is7_4 C dX5_placeAt_86 rfl ?_
        refine s_inc7_6 C dX5_placeAt_88 rfl (by first | (unfold iR; omega) | exact ⟨by omega, by omega⟩) ?_
        refine x_goto (tgt := 36) C dX5_placeAt_91 (by decide) ?_
        have hpr : ¬ pW a r = true := fun h9 => by have h8 := of_decide_eq_true h9; omega
        have hx1 : fIdx (pW a) (r :: R) k = fIdx (pW a) R (k + 1) := by rw [fIdx, if_neg hpr]
        have hx2 : lst (pW a) (r :: R) k (-4) = lst (pW a) R (k + 1) (-4) := by rw [lst, if_neg hpr]
        refine ih P0 (r :: R) (k + -1) _ _ hP0 (by rw [hP2]) (by omega) ?_ ?_
        · rw [show k + -1 + 1 = k by omega, hx1]; exact hfi
        · rw [show k + -1 + 1 = k by omega, hx2]; exact hla
      · refine x_iload C dX5_placeAt_79 rfl ?_
        refine x_goto (tgt := 86) C dX5_placeAt_81 (by decide) ?_
        refine s_is7_4 C dX5_placeAt_86 rfl ?_
        refine s_inc7_6 C dX5_placeAt_88 rfl (by first | (unfold iR; omega) | exact ⟨by omega, by omega⟩) ?_
        refine x_goto (tgt := 36) C dX5_placeAt_91 (by decide) ?_
        omega
    · refine x_iload C dX5_placeAt_52 rfl ?_
      refine x_bipush C dX5_placeAt_54 ⟨by decide, by decide⟩ ?_
      refine x_icmp_ne (tgt := 64) C dX5_placeAt_56 (by decide) (fun c56 => ?_) (fun c56 => ?_)
      · refine x_iload C dX5_placeAt_64 rfl ?_
        refine s_is7_5 C dX5_placeAt_66 rfl ?_
        refine x_aload_n C dX5_placeAt_68 rfl ?_
        refine x_get C dX5_placeAt_69 kfX5_44 hr.o rfl ?_
        refine x_iload C dX5_placeAt_72 rfl ?_
        refine x_iald C dX5_placeAt_74 hr.a9 (by omega) (by rw [hr.l9]; omega) ?_
        rw [e9]
        refine x_iload_n C dX5_placeAt_75 rfl ?_
        refine x_icmp_ne (tgt := 84) C dX5_placeAt_76 (by decide) (fun c76 => ?_) (fun c76 => ?_)
        · refine x_iload C dX5_placeAt_84 rfl ?_
          refine s_is7_4 C dX5_placeAt_86 rfl ?_
          refine s_inc7_6 C dX5_placeAt_88 rfl (by first | (unfold iR; omega) | exact ⟨by omega, by omega⟩) ?_
          refine x_goto (tgt := 36) C dX5_placeAt_91 (by decide) ?_
          omega
        · refine x_iload C dX5_placeAt_79 rfl ?_
          refine x_goto (tgt := 86) C dX5_placeAt_81 (by decide) ?_
          refine s_is7_4 C dX5_placeAt_86 rfl ?_
          refine s_inc7_6 C dX5_placeAt_88 rfl (by first | (unfold iR; omega) | exact ⟨by omega, by omega⟩) ?_
          refine x_goto (tgt := 36) C dX5_placeAt_91 (by decide) ?_
          have hpr : pW a r = true := decide_eq_true (by omega)
          have hx1 : fIdx (pW a) (r :: R) k = k := by rw [fIdx, if_pos hpr]
          have hx2 : lst (pW a) (r :: R) k (-4) = lst (pW a) R (k + 1) k := by rw [lst, if_pos hpr]
          refine ih P0 (r :: R) (k + -1) _ _ hP0 (by rw [hP2]) (by omega) ?_ ?_
          · rw [show k + -1 + 1 = k by omega, hx1, if_neg (by omega)]
          · rw [show k + -1 + 1 = k by omega, hx2, ha9 k (by omega), ← hla, if_neg c56]
      · refine x_iload C dX5_placeAt_59 rfl ?_
        refine x_goto (tgt := 66) C dX5_placeAt_61 (by decide) ?_
        refine s_is7_5 C dX5_placeAt_66 rfl ?_
        refine x_aload_n C dX5_placeAt_68 rfl ?_
        refine x_get C dX5_placeAt_69 kfX5_44 hr.o rfl ?_
        refine x_iload C dX5_placeAt_72 rfl ?_
        refine x_iald C dX5_placeAt_74 hr.a9 (by omega) (by rw [hr.l9]; omega) ?_
        rw [e9]
        refine x_iload_n C dX5_placeAt_75 rfl ?_
        refine x_icmp_ne (tgt := 84) C dX5_placeAt_76 (by decide) (fun c76 => ?_) (fun c76 => ?_)
        · refine x_iload C dX5_placeAt_84 rfl ?_
          refine s_is7_4 C dX5_placeAt_86 rfl ?_
          refine s_inc7_6 C dX5_placeAt_88 rfl (by first | (unfold iR; omega) | exact ⟨by omega, by omega⟩) ?_
          refine x_goto (tgt := 36) C dX5_placeAt_91 (by decide) ?_
          omega
        · refine x_iload C dX5_placeAt_79 rfl ?_
          refine x_goto (tgt := 86) C dX5_placeAt_81 (by decide) ?_
          refine s_is7_4 C dX5_placeAt_86 rfl ?_
          refine s_inc7_6 C dX5_placeAt_88 rfl (by first | (unfold iR; omega) | exact ⟨by omega, by omega⟩) ?_
          refine x_goto (tgt := 36) C dX5_placeAt_91 (by decide) ?_
          have hpr : pW a r = true := decide_eq_true (by omega)
          have hx1 : fIdx (pW a) (r :: R) k = k := by rw [fIdx, if_pos hpr]
          have hx2 : lst (pW a) (r :: R) k (-4) = lst (pW a) R (k + 1) k := by rw [lst, if_pos hpr]
          refine ih P0 (r :: R) (k + -1) _ _ hP0 (by rw [hP2]) (by omega) ?_ ?_
          · rw [show k + -1 + 1 = k by omega, hx1, if_neg (by omega)]
          · rw [show k + -1 + 1 = k by omega, hx2, ha9 k (by omega), ← hla, if_pos c56]

set_option maxHeartbeats 1000000 in
set_option maxRecDepth 100000 in
theorem c_X5_placeAt (l : Launch) {w : mW} {h : Nat} {F : mF} {um sm wp wr ac sz ra rn : Int} {M14 M15 M16 M17 M18 M19 M20 M21 M22 M23 : List Int} (hN : isNs w h F (scr F) um sm wp wr ac sz ra rn M14 M15 M16 M17 M18 M19 M20 M21 M22 M23) (hW : wfF F) (a b : Int) (ha : 0 ≤ a ∧ a < (scr F).2.length) : Cp l yX5_placeAt cX5_placeAt 7 (some .int) 1 [vr h, vi a, vi b] w (fun z => z = plcG (decide (a = ((scr F).2.length : Int) - 1)) F.1.1.length b ((scr F).1.filter (pW a)) F.1.1.length) := by
  refine Cp.of (ml := [some (vr h), some (vi a), some (vi b), none, none, none, none]) kyX5_placeAt rfl (Nat.le_of_ble_eq_true rfl) rfl ?_
  intro t n C hQ
  obtain ⟨j1, j2, j3, j4, j5, j6, J7, J8, J9, J10, J11, J12, J13, hr⟩ := hN
  have l7 := hr.l7
  have l8 := hr.l8
  have l9 := hr.l9
  have l10 := hr.l10
  have l11 := hr.l11
  have l12 := hr.l12
  have l13 := hr.l13
  simp only [List.length_append, List.length_map] at l7 l8 l9 l10 l11 l12 l13
  have hcf := scr_cont F a
  have hwf : ∀ x ∈ (scr F).1.filter (pW a), 0 ≤ x.2.2.2.2 := fun x hx => by have := hW.bd x (List.mem_filter.mp hx).1; omega
  have l1 := hr.l1
  have hff : (scr F).1.find? (pC a b) = ((scr F).1.filter (pW a)).find? (cov b) := by
    rw [List.find?_filter]
    congr 1
    funext x
    unfold pC
    by_cases h1 : pW a x = true <;> by_cases h2 : cov b x = true <;> simp [h1, h2]
  refine x_aload_n C dX5_placeAt_0 rfl ?_
  refine x_iload_n C dX5_placeAt_1 rfl ?_
  refine x_iload_n C dX5_placeAt_2 rfl ?_
  refine y_p2 C dX5_placeAt_3 kyX5_pieceAt knX5_pieceAt kmX5_220 hr.o (c_X5_pieceAt l (F := F) ⟨j1, j2, j3, j4, j5, j6, J7, J8, J9, J10, J11, J12, J13, hr⟩ hW a b) (by decide) (Nat.zero_le _) (Nat.zero_le _) (Nat.le_of_ble_eq_true rfl) (fun z3 q3 => ?_)
  subst q3
  have hc9 := fI4_c (pC a b) (scr F).1
  refine s_ist7_3 C dX5_placeAt_6 rfl ?_
  refine x_iload_n C dX5_placeAt_7 rfl ?_
  refine x_bipush C dX5_placeAt_8 ⟨by decide, by decide⟩ ?_
  refine x_icmp_eq (tgt := 20) C dX5_placeAt_10 (by decide) (fun c10 => ?_) (fun c10 => ?_)
  · have hnf : (scr F).1.find? (pC a b) = none := by
      rcases hc9 with h9 | h9
      · exact h9.2
      · omega
    rw [hff] at hnf
    have hnc : ∀ x ∈ (scr F).1.filter (pW a), ¬ cov b x = true := List.find?_eq_none.mp hnf
    refine x_bipush C dX5_placeAt_20 ⟨by decide, by decide⟩ ?_
    refine s_is7_4 C dX5_placeAt_22 rfl ?_
    refine x_bipush C dX5_placeAt_24 ⟨by decide, by decide⟩ ?_
    refine s_is7_5 C dX5_placeAt_26 rfl ?_
    refine x_aload_n C dX5_placeAt_28 rfl ?_
    refine x_get C dX5_placeAt_29 kfX5_117 hr.o rfl ?_
    refine x_iconst C dX5_placeAt_32 ⟨by decide, by decide⟩ ?_
    refine x_isub C dX5_placeAt_33 (by first | (unfold iR; omega) | exact ⟨by omega, by omega⟩) ?_
    refine s_is7_6 C dX5_placeAt_34 rfl ?_
    refine lp_X5_placeAt hr a b _ C (fun fi la hfi hla => ?_) (scr F).1.length (scr F).1 [] _ _ _ rfl (by simp) rfl rfl rfl
    rw [show (-1 : Int) + 1 = 0 by decide] at hfi hla
    have hfi : fi = fI4 (pW a) (scr F).1 := hfi
    have hcf9 := fI4_c (pW a) (scr F).1
    rw [← hfi] at hcf9
    have hll := lst_last (pW a) (scr F).1 0 (by omega)
    rw [← hla] at hll
    have hhd : ((scr F).1.filter (pW a)).head? = (scr F).1.find? (pW a) := List.head?_filter ..
    refine x_iload C dX5_placeAt_94 rfl ?_
    refine x_bipush C dX5_placeAt_96 ⟨by decide, by decide⟩ ?_
    refine x_icmp_eq (tgt := 132) C dX5_placeAt_98 (by decide) (fun c98 => ?_) (fun c98 => ?_)
    · have hh9 : ∀ x, ((scr F).1.filter (pW a)).head? = some x → x.1 = 27 ∨ x.2.2.2.1 ≤ b := by
        intro x hx
        rw [hhd] at hx
        rcases hcf9 with h9 | h9
        · rw [h9.2] at hx; cases hx
        · omega
      refine x_iload C dX5_placeAt_132 rfl ?_
      refine x_bipush C dX5_placeAt_134 ⟨by decide, by decide⟩ ?_
      refine x_icmp_eq (tgt := 155) C dX5_placeAt_136 (by decide) (fun c136 => ?_) (fun c136 => ?_)
      · refine x_iconst C dX5_placeAt_155 ⟨by decide, by decide⟩ ?_
        refine s_is7_6 C dX5_placeAt_156 rfl ?_
        refine x_iload C dX5_placeAt_158 rfl ?_
        refine x_if_ne (tgt := 178) C dX5_placeAt_160 (by decide) (fun c160 => ?_) (fun c160 => ?_)
        · exact absurd (by omega : False) id
        · refine x_iload_n C dX5_placeAt_163 rfl ?_
          refine x_aload_n C dX5_placeAt_164 rfl ?_
          refine x_get C dX5_placeAt_165 kfX5_144 hr.o rfl ?_
          refine x_icmp_ne (tgt := 178) C dX5_placeAt_168 (by decide) (fun c168 => ?_) (fun c168 => ?_)
          · have hX : (scr F).1.filter (pW a) = [] := by
              rcases hll with h9 | ⟨P9, R9, y9, h7, h8, h9⟩
              · exact h9.2
              · omega
            exact absurd hX (scr_ne F ha.1 (by omega))
          · refine x_aload_n C dX5_placeAt_171 rfl ?_
            refine x_get C dX5_placeAt_172 kfX5_89 hr.o rfl ?_
            refine x_goto (tgt := 185) C dX5_placeAt_175 (by decide) ?_
            refine x_iret C hQ dX5_placeAt_185 (Nat.le_refl _) (Nat.le_refl _) ?_
            refine ⟨rfl, rfl, _, rfl, ?_⟩
            have hX : (scr F).1.filter (pW a) = [] := by
              rcases hll with h9 | ⟨P9, R9, y9, h7, h8, h9⟩
              · exact h9.2
              · omega
            rw [hX, plcG, if_pos (decide_eq_true (by omega))]
      · have hll := hll.resolve_left (fun h9 => c136 h9.1)
        obtain ⟨P9, R9, y9, h7, h8, hY⟩ := hll
        have hPl : (scr F).1.length = P9.length + (R9.length + 1) := by rw [h7]; simp
        have v7y : ((scr F).1.map (fun q => q.1) ++ J7).getD la.toNat 0 = y9.1 := by rw [h7]; exact gmap_at _ P9 R9 y9 J7 (by omega)
        have v8y : ((scr F).1.map (fun q => q.2.1) ++ J8).getD la.toNat 0 = y9.2.1 := by rw [h7]; exact gmap_at _ P9 R9 y9 J8 (by omega)
        have hend := plcG_end (b := decide (a = ((scr F).2.length : Int) - 1)) (last := F.1.1.length) (col := b) (f := F.1.1.length) hcf hnc hh9
        refine x_aload_n C dX5_placeAt_139 rfl ?_
        refine x_get C dX5_placeAt_140 kfX5_38 hr.o rfl ?_
        refine x_iload C dX5_placeAt_143 rfl ?_
        refine x_iald C dX5_placeAt_145 hr.a7 (by omega) (by rw [hr.l7]; omega) ?_
        rw [v7y]
        refine x_bipush C dX5_placeAt_146 ⟨by decide, by decide⟩ ?_
        refine x_icmp_ne (tgt := 155) C dX5_placeAt_148 (by decide) (fun c148 => ?_) (fun c148 => ?_)
        · refine x_iconst C dX5_placeAt_155 ⟨by decide, by decide⟩ ?_
          refine s_is7_6 C dX5_placeAt_156 rfl ?_
          refine x_iload C dX5_placeAt_158 rfl ?_
          refine x_if_ne (tgt := 178) C dX5_placeAt_160 (by decide) (fun c160 => ?_) (fun c160 => ?_)
          · refine x_aload_n C dX5_placeAt_178 rfl ?_
            refine x_get C dX5_placeAt_179 kfX5_41 hr.o rfl ?_
            refine x_iload C dX5_placeAt_182 rfl ?_
            refine x_iald C dX5_placeAt_184 hr.a8 (by omega) (by rw [hr.l8]; omega) ?_
            refine x_iret C hQ dX5_placeAt_185 (Nat.le_refl _) (Nat.le_refl _) ?_
            omega
          · refine x_iload_n C dX5_placeAt_163 rfl ?_
            refine x_aload_n C dX5_placeAt_164 rfl ?_
            refine x_get C dX5_placeAt_165 kfX5_144 hr.o rfl ?_
            refine x_icmp_ne (tgt := 178) C dX5_placeAt_168 (by decide) (fun c168 => ?_) (fun c168 => ?_)
            · refine x_aload_n C dX5_placeAt_178 rfl ?_
              refine x_get C dX5_placeAt_179 kfX5_41 hr.o rfl ?_
              refine x_iload C dX5_placeAt_182 rfl ?_
              refine x_iald C dX5_placeAt_184 hr.a8 (by omega) (by rw [hr.l8]; omega) ?_
              refine x_iret C hQ dX5_placeAt_185 (Nat.le_refl _) (Nat.le_refl _) ?_
              refine ⟨rfl, rfl, _, rfl, ?_⟩
              rw [hend, hY]
              simp only
              rw [if_neg (by omega), if_neg (fun h9 => by have h8 := of_decide_eq_true h9; omega)]; exact v8y
            · refine x_aload_n C dX5_placeAt_171 rfl ?_
              refine x_get C dX5_placeAt_172 kfX5_89 hr.o rfl ?_
              refine x_goto (tgt := 185) C dX5_placeAt_175 (by decide) ?_
              refine x_iret C hQ dX5_placeAt_185 (Nat.le_refl _) (Nat.le_refl _) ?_
              refine ⟨rfl, rfl, _, rfl, ?_⟩
              rw [hend, hY]
              simp only
              rw [if_neg (by omega), if_pos (decide_eq_true (by omega))]
        · refine x_iconst C dX5_placeAt_151 ⟨by decide, by decide⟩ ?_
          refine x_goto (tgt := 156) C dX5_placeAt_152 (by decide) ?_
          refine s_is7_6 C dX5_placeAt_156 rfl ?_
          refine x_iload C dX5_placeAt_158 rfl ?_
          refine x_if_ne (tgt := 178) C dX5_placeAt_160 (by decide) (fun c160 => ?_) (fun c160 => ?_)
          · refine x_aload_n C dX5_placeAt_178 rfl ?_
            refine x_get C dX5_placeAt_179 kfX5_41 hr.o rfl ?_
            refine x_iload C dX5_placeAt_182 rfl ?_
            refine x_iald C dX5_placeAt_184 hr.a8 (by omega) (by rw [hr.l8]; omega) ?_
            refine x_iret C hQ dX5_placeAt_185 (Nat.le_refl _) (Nat.le_refl _) ?_
            refine ⟨rfl, rfl, _, rfl, ?_⟩
            rw [hend, hY]
            simp only
            rw [if_pos (by omega)]; exact v8y
          · refine x_iload_n C dX5_placeAt_163 rfl ?_
            refine x_aload_n C dX5_placeAt_164 rfl ?_
            refine x_get C dX5_placeAt_165 kfX5_144 hr.o rfl ?_
            refine x_icmp_ne (tgt := 178) C dX5_placeAt_168 (by decide) (fun c168 => ?_) (fun c168 => ?_)
            · refine x_aload_n C dX5_placeAt_178 rfl ?_
              refine x_get C dX5_placeAt_179 kfX5_41 hr.o rfl ?_
              refine x_iload C dX5_placeAt_182 rfl ?_
              refine x_iald C dX5_placeAt_184 hr.a8 (by omega) (by rw [hr.l8]; omega) ?_
              refine x_iret C hQ dX5_placeAt_185 (Nat.le_refl _) (Nat.le_refl _) ?_
              omega
            · refine x_aload_n C dX5_placeAt_171 rfl ?_
              refine x_get C dX5_placeAt_172 kfX5_89 hr.o rfl ?_
              refine x_goto (tgt := 185) C dX5_placeAt_175 (by decide) ?_
              refine x_iret C hQ dX5_placeAt_185 (Nat.le_refl _) (Nat.le_refl _) ?_
              omega
    · have hcf9 := hcf9.resolve_left (fun h9 => c98 h9.1)
      obtain ⟨x9, ex1, ex2⟩ := hcf9.2.2.2 (fun q => q.1) J7
      have v10 : ((scr F).1.map (fun q => q.2.2.2.1) ++ J10).getD fi.toNat 0 = x9.2.2.2.1 := by
        obtain ⟨x8, ex8, ey8⟩ := hcf9.2.2.2 (fun q => q.2.2.2.1) J10
        rw [ex1] at ex8; cases ex8; exact ey8
      have v8 : ((scr F).1.map (fun q => q.2.1) ++ J8).getD fi.toNat 0 = x9.2.1 := by
        obtain ⟨x8, ex8, ey8⟩ := hcf9.2.2.2 (fun q => q.2.1) J8
        rw [ex1] at ex8; cases ex8; exact ey8
      have v7 : ((scr F).1.map (fun q => q.1) ++ J7).getD fi.toNat 0 = x9.1 := ex2
      refine x_aload_n C dX5_placeAt_101 rfl ?_
      refine x_get C dX5_placeAt_102 kfX5_38 hr.o rfl ?_
      refine x_iload C dX5_placeAt_105 rfl ?_
      refine x_iald C dX5_placeAt_107 hr.a7 (by omega) (by rw [hr.l7]; omega) ?_
      rw [v7]
      refine x_bipush C dX5_placeAt_108 ⟨by decide, by decide⟩ ?_
      refine x_icmp_eq (tgt := 132) C dX5_placeAt_110 (by decide) (fun c110 => ?_) (fun c110 => ?_)
      · have hh9 : ∀ x, ((scr F).1.filter (pW a)).head? = some x → x.1 = 27 ∨ x.2.2.2.1 ≤ b := by
          intro x hx
          rw [hhd, ex1] at hx
          cases hx
          omega
        refine x_iload C dX5_placeAt_132 rfl ?_
        refine x_bipush C dX5_placeAt_134 ⟨by decide, by decide⟩ ?_
        refine x_icmp_eq (tgt := 155) C dX5_placeAt_136 (by decide) (fun c136 => ?_) (fun c136 => ?_)
        · refine x_iconst C dX5_placeAt_155 ⟨by decide, by decide⟩ ?_
          refine s_is7_6 C dX5_placeAt_156 rfl ?_
          refine x_iload C dX5_placeAt_158 rfl ?_
          refine x_if_ne (tgt := 178) C dX5_placeAt_160 (by decide) (fun c160 => ?_) (fun c160 => ?_)
          · exact absurd (by omega : False) id
          · refine x_iload_n C dX5_placeAt_163 rfl ?_
            refine x_aload_n C dX5_placeAt_164 rfl ?_
            refine x_get C dX5_placeAt_165 kfX5_144 hr.o rfl ?_
            refine x_icmp_ne (tgt := 178) C dX5_placeAt_168 (by decide) (fun c168 => ?_) (fun c168 => ?_)
            · have hX : (scr F).1.filter (pW a) = [] := by
                rcases hll with h9 | ⟨P9, R9, y9, h7, h8, h9⟩
                · exact h9.2
                · omega
              exact absurd hX (scr_ne F ha.1 (by omega))
            · refine x_aload_n C dX5_placeAt_171 rfl ?_
              refine x_get C dX5_placeAt_172 kfX5_89 hr.o rfl ?_
              refine x_goto (tgt := 185) C dX5_placeAt_175 (by decide) ?_
              refine x_iret C hQ dX5_placeAt_185 (Nat.le_refl _) (Nat.le_refl _) ?_
              refine ⟨rfl, rfl, _, rfl, ?_⟩
              have hX : (scr F).1.filter (pW a) = [] := by
                rcases hll with h9 | ⟨P9, R9, y9, h7, h8, h9⟩
                · exact h9.2
                · omega
              rw [hX, plcG, if_pos (decide_eq_true (by omega))]
        · have hll := hll.resolve_left (fun h9 => c136 h9.1)
          obtain ⟨P9, R9, y9, h7, h8, hY⟩ := hll
          have hPl : (scr F).1.length = P9.length + (R9.length + 1) := by rw [h7]; simp
          have v7y : ((scr F).1.map (fun q => q.1) ++ J7).getD la.toNat 0 = y9.1 := by rw [h7]; exact gmap_at _ P9 R9 y9 J7 (by omega)
          have v8y : ((scr F).1.map (fun q => q.2.1) ++ J8).getD la.toNat 0 = y9.2.1 := by rw [h7]; exact gmap_at _ P9 R9 y9 J8 (by omega)
          have hend := plcG_end (b := decide (a = ((scr F).2.length : Int) - 1)) (last := F.1.1.length) (col := b) (f := F.1.1.length) hcf hnc hh9
          refine x_aload_n C dX5_placeAt_139 rfl ?_
          refine x_get C dX5_placeAt_140 kfX5_38 hr.o rfl ?_
          refine x_iload C dX5_placeAt_143 rfl ?_
          refine x_iald C dX5_placeAt_145 hr.a7 (by omega) (by rw [hr.l7]; omega) ?_
          rw [v7y]
          refine x_bipush C dX5_placeAt_146 ⟨by decide, by decide⟩ ?_
          refine x_icmp_ne (tgt := 155) C dX5_placeAt_148 (by decide) (fun c148 => ?_) (fun c148 => ?_)
          · refine x_iconst C dX5_placeAt_155 ⟨by decide, by decide⟩ ?_
            refine s_is7_6 C dX5_placeAt_156 rfl ?_
            refine x_iload C dX5_placeAt_158 rfl ?_
            refine x_if_ne (tgt := 178) C dX5_placeAt_160 (by decide) (fun c160 => ?_) (fun c160 => ?_)
            · refine x_aload_n C dX5_placeAt_178 rfl ?_
              refine x_get C dX5_placeAt_179 kfX5_41 hr.o rfl ?_
              refine x_iload C dX5_placeAt_182 rfl ?_
              refine x_iald C dX5_placeAt_184 hr.a8 (by omega) (by rw [hr.l8]; omega) ?_
              refine x_iret C hQ dX5_placeAt_185 (Nat.le_refl _) (Nat.le_refl _) ?_
              omega
            · refine x_iload_n C dX5_placeAt_163 rfl ?_
              refine x_aload_n C dX5_placeAt_164 rfl ?_
              refine x_get C dX5_placeAt_165 kfX5_144 hr.o rfl ?_
              refine x_icmp_ne (tgt := 178) C dX5_placeAt_168 (by decide) (fun c168 => ?_) (fun c168 => ?_)
              · refine x_aload_n C dX5_placeAt_178 rfl ?_
                refine x_get C dX5_placeAt_179 kfX5_41 hr.o rfl ?_
                refine x_iload C dX5_placeAt_182 rfl ?_
                refine x_iald C dX5_placeAt_184 hr.a8 (by omega) (by rw [hr.l8]; omega) ?_
                refine x_iret C hQ dX5_placeAt_185 (Nat.le_refl _) (Nat.le_refl _) ?_
                refine ⟨rfl, rfl, _, rfl, ?_⟩
                rw [hend, hY]
                simp only
                rw [if_neg (by omega), if_neg (fun h9 => by have h8 := of_decide_eq_true h9; omega)]; exact v8y
              · refine x_aload_n C dX5_placeAt_171 rfl ?_
                refine x_get C dX5_placeAt_172 kfX5_89 hr.o rfl ?_
                refine x_goto (tgt := 185) C dX5_placeAt_175 (by decide) ?_
                refine x_iret C hQ dX5_placeAt_185 (Nat.le_refl _) (Nat.le_refl _) ?_
                refine ⟨rfl, rfl, _, rfl, ?_⟩
                rw [hend, hY]
                simp only
                rw [if_neg (by omega), if_pos (decide_eq_true (by omega))]
          · refine x_iconst C dX5_placeAt_151 ⟨by decide, by decide⟩ ?_
            refine x_goto (tgt := 156) C dX5_placeAt_152 (by decide) ?_
            refine s_is7_6 C dX5_placeAt_156 rfl ?_
            refine x_iload C dX5_placeAt_158 rfl ?_
            refine x_if_ne (tgt := 178) C dX5_placeAt_160 (by decide) (fun c160 => ?_) (fun c160 => ?_)
            · refine x_aload_n C dX5_placeAt_178 rfl ?_
              refine x_get C dX5_placeAt_179 kfX5_41 hr.o rfl ?_
              refine x_iload C dX5_placeAt_182 rfl ?_
              refine x_iald C dX5_placeAt_184 hr.a8 (by omega) (by rw [hr.l8]; omega) ?_
              refine x_iret C hQ dX5_placeAt_185 (Nat.le_refl _) (Nat.le_refl _) ?_
              refine ⟨rfl, rfl, _, rfl, ?_⟩
              rw [hend, hY]
              simp only
              rw [if_pos (by omega)]; exact v8y
            · refine x_iload_n C dX5_placeAt_163 rfl ?_
              refine x_aload_n C dX5_placeAt_164 rfl ?_
              refine x_get C dX5_placeAt_165 kfX5_144 hr.o rfl ?_
              refine x_icmp_ne (tgt := 178) C dX5_placeAt_168 (by decide) (fun c168 => ?_) (fun c168 => ?_)
              · refine x_aload_n C dX5_placeAt_178 rfl ?_
                refine x_get C dX5_placeAt_179 kfX5_41 hr.o rfl ?_
                refine x_iload C dX5_placeAt_182 rfl ?_
                refine x_iald C dX5_placeAt_184 hr.a8 (by omega) (by rw [hr.l8]; omega) ?_
                refine x_iret C hQ dX5_placeAt_185 (Nat.le_refl _) (Nat.le_refl _) ?_
                omega
              · refine x_aload_n C dX5_placeAt_171 rfl ?_
                refine x_get C dX5_placeAt_172 kfX5_89 hr.o rfl ?_
                refine x_goto (tgt := 185) C dX5_placeAt_175 (by decide) ?_
                refine x_iret C hQ dX5_placeAt_185 (Nat.le_refl _) (Nat.le_refl _) ?_
                omega
      · refine x_iload_n C dX5_placeAt_113 rfl ?_
        refine x_aload_n C dX5_placeAt_114 rfl ?_
        refine x_get C dX5_placeAt_115 kfX5_47 hr.o rfl ?_
        refine x_iload C dX5_placeAt_118 rfl ?_
        refine x_iald C dX5_placeAt_120 hr.a10 (by omega) (by rw [hr.l10]; omega) ?_
        rw [v10]
        refine x_icmp_ge (tgt := 132) C dX5_placeAt_121 (by decide) (fun c121 => ?_) (fun c121 => ?_)
        · have hh9 : ∀ x, ((scr F).1.filter (pW a)).head? = some x → x.1 = 27 ∨ x.2.2.2.1 ≤ b := by
            intro x hx
            rw [hhd, ex1] at hx
            cases hx
            omega
          refine x_iload C dX5_placeAt_132 rfl ?_
          refine x_bipush C dX5_placeAt_134 ⟨by decide, by decide⟩ ?_
          refine x_icmp_eq (tgt := 155) C dX5_placeAt_136 (by decide) (fun c136 => ?_) (fun c136 => ?_)
          · refine x_iconst C dX5_placeAt_155 ⟨by decide, by decide⟩ ?_
            refine s_is7_6 C dX5_placeAt_156 rfl ?_
            refine x_iload C dX5_placeAt_158 rfl ?_
            refine x_if_ne (tgt := 178) C dX5_placeAt_160 (by decide) (fun c160 => ?_) (fun c160 => ?_)
            · exact absurd (by omega : False) id
            · refine x_iload_n C dX5_placeAt_163 rfl ?_
              refine x_aload_n C dX5_placeAt_164 rfl ?_
              refine x_get C dX5_placeAt_165 kfX5_144 hr.o rfl ?_
              refine x_icmp_ne (tgt := 178) C dX5_placeAt_168 (by decide) (fun c168 => ?_) (fun c168 => ?_)
              · have hX : (scr F).1.filter (pW a) = [] := by
                  rcases hll with h9 | ⟨P9, R9, y9, h7, h8, h9⟩
                  · exact h9.2
                  · omega
                exact absurd hX (scr_ne F ha.1 (by omega))
              · refine x_aload_n C dX5_placeAt_171 rfl ?_
                refine x_get C dX5_placeAt_172 kfX5_89 hr.o rfl ?_
                refine x_goto (tgt := 185) C dX5_placeAt_175 (by decide) ?_
                refine x_iret C hQ dX5_placeAt_185 (Nat.le_refl _) (Nat.le_refl _) ?_
                refine ⟨rfl, rfl, _, rfl, ?_⟩
                have hX : (scr F).1.filter (pW a) = [] := by
                  rcases hll with h9 | ⟨P9, R9, y9, h7, h8, h9⟩
                  · exact h9.2
                  · omega
                rw [hX, plcG, if_pos (decide_eq_true (by omega))]
          · have hll := hll.resolve_left (fun h9 => c136 h9.1)
            obtain ⟨P9, R9, y9, h7, h8, hY⟩ := hll
            have hPl : (scr F).1.length = P9.length + (R9.length + 1) := by rw [h7]; simp
            have v7y : ((scr F).1.map (fun q => q.1) ++ J7).getD la.toNat 0 = y9.1 := by rw [h7]; exact gmap_at _ P9 R9 y9 J7 (by omega)
            have v8y : ((scr F).1.map (fun q => q.2.1) ++ J8).getD la.toNat 0 = y9.2.1 := by rw [h7]; exact gmap_at _ P9 R9 y9 J8 (by omega)
            have hend := plcG_end (b := decide (a = ((scr F).2.length : Int) - 1)) (last := F.1.1.length) (col := b) (f := F.1.1.length) hcf hnc hh9
            refine x_aload_n C dX5_placeAt_139 rfl ?_
            refine x_get C dX5_placeAt_140 kfX5_38 hr.o rfl ?_
            refine x_iload C dX5_placeAt_143 rfl ?_
            refine x_iald C dX5_placeAt_145 hr.a7 (by omega) (by rw [hr.l7]; omega) ?_
            rw [v7y]
            refine x_bipush C dX5_placeAt_146 ⟨by decide, by decide⟩ ?_
            refine x_icmp_ne (tgt := 155) C dX5_placeAt_148 (by decide) (fun c148 => ?_) (fun c148 => ?_)
            · refine x_iconst C dX5_placeAt_155 ⟨by decide, by decide⟩ ?_
              refine s_is7_6 C dX5_placeAt_156 rfl ?_
              refine x_iload C dX5_placeAt_158 rfl ?_
              refine x_if_ne (tgt := 178) C dX5_placeAt_160 (by decide) (fun c160 => ?_) (fun c160 => ?_)
              · refine x_aload_n C dX5_placeAt_178 rfl ?_
                refine x_get C dX5_placeAt_179 kfX5_41 hr.o rfl ?_
                refine x_iload C dX5_placeAt_182 rfl ?_
                refine x_iald C dX5_placeAt_184 hr.a8 (by omega) (by rw [hr.l8]; omega) ?_
                refine x_iret C hQ dX5_placeAt_185 (Nat.le_refl _) (Nat.le_refl _) ?_
                omega
              · refine x_iload_n C dX5_placeAt_163 rfl ?_
                refine x_aload_n C dX5_placeAt_164 rfl ?_
                refine x_get C dX5_placeAt_165 kfX5_144 hr.o rfl ?_
                refine x_icmp_ne (tgt := 178) C dX5_placeAt_168 (by decide) (fun c168 => ?_) (fun c168 => ?_)
                · refine x_aload_n C dX5_placeAt_178 rfl ?_
                  refine x_get C dX5_placeAt_179 kfX5_41 hr.o rfl ?_
                  refine x_iload C dX5_placeAt_182 rfl ?_
                  refine x_iald C dX5_placeAt_184 hr.a8 (by omega) (by rw [hr.l8]; omega) ?_
                  refine x_iret C hQ dX5_placeAt_185 (Nat.le_refl _) (Nat.le_refl _) ?_
                  refine ⟨rfl, rfl, _, rfl, ?_⟩
                  rw [hend, hY]
                  simp only
                  rw [if_neg (by omega), if_neg (fun h9 => by have h8 := of_decide_eq_true h9; omega)]; exact v8y
                · refine x_aload_n C dX5_placeAt_171 rfl ?_
                  refine x_get C dX5_placeAt_172 kfX5_89 hr.o rfl ?_
                  refine x_goto (tgt := 185) C dX5_placeAt_175 (by decide) ?_
                  refine x_iret C hQ dX5_placeAt_185 (Nat.le_refl _) (Nat.le_refl _) ?_
                  refine ⟨rfl, rfl, _, rfl, ?_⟩
                  rw [hend, hY]
                  simp only
                  rw [if_neg (by omega), if_pos (decide_eq_true (by omega))]
            · refine x_iconst C dX5_placeAt_151 ⟨by decide, by decide⟩ ?_
              refine x_goto (tgt := 156) C dX5_placeAt_152 (by decide) ?_
              refine s_is7_6 C dX5_placeAt_156 rfl ?_
              refine x_iload C dX5_placeAt_158 rfl ?_
              refine x_if_ne (tgt := 178) C dX5_placeAt_160 (by decide) (fun c160 => ?_) (fun c160 => ?_)
              · refine x_aload_n C dX5_placeAt_178 rfl ?_
                refine x_get C dX5_placeAt_179 kfX5_41 hr.o rfl ?_
                refine x_iload C dX5_placeAt_182 rfl ?_
                refine x_iald C dX5_placeAt_184 hr.a8 (by omega) (by rw [hr.l8]; omega) ?_
                refine x_iret C hQ dX5_placeAt_185 (Nat.le_refl _) (Nat.le_refl _) ?_
                refine ⟨rfl, rfl, _, rfl, ?_⟩
                rw [hend, hY]
                simp only
                rw [if_pos (by omega)]; exact v8y
              · refine x_iload_n C dX5_placeAt_163 rfl ?_
                refine x_aload_n C dX5_placeAt_164 rfl ?_
                refine x_get C dX5_placeAt_165 kfX5_144 hr.o rfl ?_
                refine x_icmp_ne (tgt := 178) C dX5_placeAt_168 (by decide) (fun c168 => ?_) (fun c168 => ?_)
                · refine x_aload_n C dX5_placeAt_178 rfl ?_
                  refine x_get C dX5_placeAt_179 kfX5_41 hr.o rfl ?_
                  refine x_iload C dX5_placeAt_182 rfl ?_
                  refine x_iald C dX5_placeAt_184 hr.a8 (by omega) (by rw [hr.l8]; omega) ?_
                  refine x_iret C hQ dX5_placeAt_185 (Nat.le_refl _) (Nat.le_refl _) ?_
                  omega
                · refine x_aload_n C dX5_placeAt_171 rfl ?_
                  refine x_get C dX5_placeAt_172 kfX5_89 hr.o rfl ?_
                  refine x_goto (tgt := 185) C dX5_placeAt_175 (by decide) ?_
                  refine x_iret C hQ dX5_placeAt_185 (Nat.le_refl _) (Nat.le_refl _) ?_
                  omega
        · refine x_aload_n C dX5_placeAt_124 rfl ?_
          refine x_get C dX5_placeAt_125 kfX5_41 hr.o rfl ?_
          refine x_iload C dX5_placeAt_128 rfl ?_
          refine x_iald C dX5_placeAt_130 hr.a8 (by omega) (by rw [hr.l8]; omega) ?_
          refine x_iret C hQ dX5_placeAt_131 (Nat.le_refl _) (Nat.le_refl _) ?_
          refine ⟨rfl, rfl, _, rfl, ?_⟩
          rw [v8]
          have hX : ∃ l9, (scr F).1.filter (pW a) = x9 :: l9 := by
            cases hX : (scr F).1.filter (pW a) with
            | nil => rw [hX, ex1] at hhd; simp at hhd
            | cons y l9 => rw [hX, ex1] at hhd; simp at hhd; exact ⟨l9, by rw [hhd]⟩
          obtain ⟨l9, hX⟩ := hX
          rw [hX]
          exact (plcG_first (by omega) (hwf x9 (by rw [hX]; simp))).symm
  · have hc9 := hc9.resolve_left (fun h9 => c10 h9.1)
    obtain ⟨x9, ex1, ex2⟩ := hc9.2.2.2 (fun q => q.2.1) J8
    refine x_aload_n C dX5_placeAt_13 rfl ?_
    refine x_get C dX5_placeAt_14 kfX5_41 hr.o rfl ?_
    refine x_iload_n C dX5_placeAt_17 rfl ?_
    refine x_iald C dX5_placeAt_18 hr.a8 (by omega) (by rw [hr.l8]; omega) ?_
    refine x_iret C hQ dX5_placeAt_19 (Nat.le_refl _) (Nat.le_refl _) ?_
    refine ⟨rfl, rfl, _, rfl, ?_⟩
    rw [ex2]
    exact (plcG_cov hcf hwf (hff ▸ ex1)).symm

set_option maxHeartbeats 1000000 in
set_option maxRecDepth 100000 in
theorem c_X5_place (l : Launch) {w : mW} {h : Nat} {D : mD} (hM : isM w h D) (hD : wfD D) (p q : Int) : Ci l yX5_place cX5_place 3 (some .int) 4 [vr h, vi p, vi q] w (fun z w' => z = q_place D.F p q ∧ isM w' h D ∧ frR w w' h (h + 23)) := by
  refine Ci.of (ml := [some (vr h), some (vi p), some (vi q)]) kyX5_place rfl (Nat.le_of_ble_eq_true rfl) rfl ?_
  intro t n C hQ
  have hM2 := hM
  obtain ⟨wp, wr, ac, ra, rn, M14, M15, M16, M17, M18, M19, M20, M21, M22, M23, hN, hU, hK, hlU, hlK, ⟨jt, ht⟩, hO⟩ := hM
  have hfA : frR w w h (h + 23) := frR.rf
  have hN2 := hN
  obtain ⟨j1, j2, j3, j4, j5, j6, pi, lr, lc, M7, M8, M9, M10, M11, M12, M13, hr⟩ := hN
  obtain ⟨f1, f2, f3, f4, f5, f6, f7, f8, f9, f10, f11, f12⟩ := id hD.2.1
  have hw : ∀ f ∈ D.F.1.2.1, (0 ≤ f.1 ∧ f.1 ≤ 100) ∧ (0 ≤ f.2.1 ∧ f.2.1 ≤ 100) ∧ (f.2.2 = 0 ∨ f.2.2 = 1) := fun f hf9 => by have := f4 f hf9; omega
  have hsm := hD.2.1.sm
  have hwT := (wfF_iff D.F).mp hD.2.1
  refine x_aload_n C dX5_place_0 rfl ?_
  refine y_v0 C dX5_place_1 kyX5_setScreen knX5_setScreen kmX5_150 hr.o (c_X5_setScreen l hN2 hD.2.1) (by decide) (Nat.zero_le _) (Nat.zero_le _) (Nat.le_of_ble_eq_true rfl) (fun w1 q1 => ?_)
  obtain ⟨hNs, hf9⟩ := q1
  have hfA := hfA.tr hf9
  have hN2 := hNs.n
  obtain ⟨j1, j2, j3, j4, j5, j6, J7, J8, J9, J10, J11, J12, J13, hr⟩ := id hNs
  have l7 := hr.l7
  have l8 := hr.l8
  have l9 := hr.l9
  have l10 := hr.l10
  have l11 := hr.l11
  have l12 := hr.l12
  have l13 := hr.l13
  simp only [List.length_append, List.length_map] at l7 l8 l9 l10 l11 l12 l13
  refine x_aload_n C dX5_place_4 rfl ?_
  refine x_iload_n C dX5_place_5 rfl ?_
  refine y_p1 C dX5_place_6 kyX5_isRow knX5_isRow kmX5_223 hr.o (c_X5_isRow l hr p) (by decide) (Nat.zero_le _) (Nat.zero_le _) (Nat.le_of_ble_eq_true rfl) (fun z6 q6 => ?_)
  refine x_if_eq (tgt := 31) C dX5_place_9 (by decide) (fun c9 => ?_) (fun c9 => ?_)
  · refine x_iconst C dX5_place_31 ⟨by decide, by decide⟩ ?_
    refine x_iret C hQ dX5_place_32 (Nat.le_refl _) (Nat.le_refl _) ?_
    exact ⟨rfl, _, rfl, by rw [q_place, if_pos (by omega)], ⟨_, _, _, _, _, _, _, _, _, _, _, _, _, _, _, hN2, hU, hK, hlU, hlK, ⟨jt, ht⟩, hO⟩, hfA⟩
  · refine x_iload_n C dX5_place_12 rfl ?_
    refine x_iconst C dX5_place_13 ⟨by decide, by decide⟩ ?_
    refine x_bipush C dX5_place_14 ⟨by decide, by decide⟩ ?_
    refine z_p3 C dX5_place_16 kyX5_in ksX5_in kmX5_103 (c_X5_in l q 0 99) (by decide) (Nat.zero_le _) (Nat.zero_le _) (Nat.le_of_ble_eq_true rfl) (fun z16 q16 => ?_)
    refine x_if_eq (tgt := 31) C dX5_place_19 (by decide) (fun c19 => ?_) (fun c19 => ?_)
    · refine x_iconst C dX5_place_31 ⟨by decide, by decide⟩ ?_
      refine x_iret C hQ dX5_place_32 (Nat.le_refl _) (Nat.le_refl _) ?_
      exact ⟨rfl, _, rfl, by rw [q_place, if_pos (by omega)], ⟨_, _, _, _, _, _, _, _, _, _, _, _, _, _, _, hN2, hU, hK, hlU, hlK, ⟨jt, ht⟩, hO⟩, hfA⟩
    · refine x_aload_n C dX5_place_22 rfl ?_
      refine x_iload_n C dX5_place_23 rfl ?_
      refine x_iload_n C dX5_place_24 rfl ?_
      refine y_p2 C dX5_place_25 kyX5_placeAt knX5_placeAt kmX5_226 hr.o (c_X5_placeAt l hNs hD.2.1 p q (by omega)) (by decide) (Nat.zero_le _) (Nat.zero_le _) (Nat.le_of_ble_eq_true rfl) (fun z25 q25 => ?_)
      refine x_goto (tgt := 32) C dX5_place_28 (by decide) ?_
      refine x_iret C hQ dX5_place_32 (Nat.le_refl _) (Nat.le_refl _) ?_
      exact ⟨rfl, _, rfl, by rw [q25, ← plcF_flt, q_place, if_neg (by omega)], ⟨_, _, _, _, _, _, _, _, _, _, _, _, _, _, _, hN2, hU, hK, hlU, hlK, ⟨jt, ht⟩, hO⟩, hfA⟩

set_option maxHeartbeats 1000000 in
set_option maxRecDepth 100000 in
theorem c_X5_screen (l : Launch) {w : mW} {h : Nat} {D : mD} (hM : isM w h D) (hD : wfD D) (p q : Int) : Ci l yX5_screen cX5_screen 4 (some .int) 4 [vr h, vi p, vi q] w (fun z w' => z = q_screen D.F p q ∧ isM w' h D ∧ frR w w' h (h + 23)) := by
  refine Ci.of (ml := [some (vr h), some (vi p), some (vi q), none]) kyX5_screen rfl (Nat.le_of_ble_eq_true rfl) rfl ?_
  intro t n C hQ
  have hM2 := hM
  obtain ⟨wp, wr, ac, ra, rn, M14, M15, M16, M17, M18, M19, M20, M21, M22, M23, hN, hU, hK, hlU, hlK, ⟨jt, ht⟩, hO⟩ := hM
  have hfA : frR w w h (h + 23) := frR.rf
  have hN2 := hN
  obtain ⟨j1, j2, j3, j4, j5, j6, pi, lr, lc, M7, M8, M9, M10, M11, M12, M13, hr⟩ := hN
  obtain ⟨f1, f2, f3, f4, f5, f6, f7, f8, f9, f10, f11, f12⟩ := id hD.2.1
  have hw : ∀ f ∈ D.F.1.2.1, (0 ≤ f.1 ∧ f.1 ≤ 100) ∧ (0 ≤ f.2.1 ∧ f.2.1 ≤ 100) ∧ (f.2.2 = 0 ∨ f.2.2 = 1) := fun f hf9 => by have := f4 f hf9; omega
  have hsm := hD.2.1.sm
  have hwT := (wfF_iff D.F).mp hD.2.1
  refine x_aload_n C dX5_screen_0 rfl ?_
  refine y_v0 C dX5_screen_1 kyX5_setScreen knX5_setScreen kmX5_150 hr.o (c_X5_setScreen l hN2 hD.2.1) (by decide) (Nat.zero_le _) (Nat.zero_le _) (Nat.le_of_ble_eq_true rfl) (fun w1 q1 => ?_)
  obtain ⟨hNs, hf9⟩ := q1
  have hfA := hfA.tr hf9
  have hN2 := hNs.n
  obtain ⟨j1, j2, j3, j4, j5, j6, J7, J8, J9, J10, J11, J12, J13, hr⟩ := id hNs
  have l7 := hr.l7
  have l8 := hr.l8
  have l9 := hr.l9
  have l10 := hr.l10
  have l11 := hr.l11
  have l12 := hr.l12
  have l13 := hr.l13
  simp only [List.length_append, List.length_map] at l7 l8 l9 l10 l11 l12 l13
  refine x_aload_n C dX5_screen_4 rfl ?_
  refine x_iload_n C dX5_screen_5 rfl ?_
  refine y_p1 C dX5_screen_6 kyX5_isRow knX5_isRow kmX5_223 hr.o (c_X5_isRow l hr p) (by decide) (Nat.zero_le _) (Nat.zero_le _) (Nat.le_of_ble_eq_true rfl) (fun z6 q6 => ?_)
  refine x_if_eq (tgt := 22) C dX5_screen_9 (by decide) (fun c9 => ?_) (fun c9 => ?_)
  · refine x_iconst C dX5_screen_22 ⟨by decide, by decide⟩ ?_
    refine x_iret C hQ dX5_screen_23 (Nat.le_refl _) (Nat.le_refl _) ?_
    exact ⟨rfl, _, rfl, by rw [q_screen, if_pos (by omega)], ⟨_, _, _, _, _, _, _, _, _, _, _, _, _, _, _, hN2, hU, hK, hlU, hlK, ⟨jt, ht⟩, hO⟩, hfA⟩
  · refine x_iload_n C dX5_screen_12 rfl ?_
    refine x_iconst C dX5_screen_13 ⟨by decide, by decide⟩ ?_
    refine x_bipush C dX5_screen_14 ⟨by decide, by decide⟩ ?_
    refine z_p3 C dX5_screen_16 kyX5_in ksX5_in kmX5_103 (c_X5_in l q 0 99) (by decide) (Nat.zero_le _) (Nat.zero_le _) (Nat.le_of_ble_eq_true rfl) (fun z16 q16 => ?_)
    refine x_if_ne (tgt := 24) C dX5_screen_19 (by decide) (fun c19 => ?_) (fun c19 => ?_)
    · refine x_aload_n C dX5_screen_24 rfl ?_
      refine x_iload_n C dX5_screen_25 rfl ?_
      refine x_iload_n C dX5_screen_26 rfl ?_
      refine y_p2 C dX5_screen_27 kyX5_pieceAt knX5_pieceAt kmX5_220 hr.o (c_X5_pieceAt l hNs hD.2.1 p q) (by decide) (Nat.zero_le _) (Nat.zero_le _) (Nat.le_of_ble_eq_true rfl) (fun z27 q27 => ?_)
      subst q27
      have hc9 := fI4_c (pC p q) (scr D.F).1
      refine s_ist4_3 C dX5_screen_30 rfl ?_
      refine x_iload_n C dX5_screen_31 rfl ?_
      refine x_bipush C dX5_screen_32 ⟨by decide, by decide⟩ ?_
      refine x_icmp_ne (tgt := 42) C dX5_screen_34 (by decide) (fun c34 => ?_) (fun c34 => ?_)
      · have hc9 := hc9.resolve_left (fun h9 => c34 h9.1)
        obtain ⟨x9, ex1, ex2⟩ := hc9.2.2.2 (fun q => q.1) J7
        refine x_aload_n C dX5_screen_42 rfl ?_
        refine x_get C dX5_screen_43 kfX5_38 hr.o rfl ?_
        refine x_iload_n C dX5_screen_46 rfl ?_
        refine x_iald C dX5_screen_47 hr.a7 (by omega) (by rw [hr.l7]; omega) ?_
        refine x_iret C hQ dX5_screen_48 (Nat.le_refl _) (Nat.le_refl _) ?_
        exact ⟨rfl, _, rfl, by rw [q_screen, if_neg (by omega), codeF_find, ex1]; exact ex2, ⟨_, _, _, _, _, _, _, _, _, _, _, _, _, _, _, hN2, hU, hK, hlU, hlK, ⟨jt, ht⟩, hO⟩, hfA⟩
      · have ex1 : (scr D.F).1.find? (pC p q) = none := by
          rcases hc9 with h9 | h9
          · exact h9.2
          · omega
        refine x_bipush C dX5_screen_37 ⟨by decide, by decide⟩ ?_
        refine x_goto (tgt := 48) C dX5_screen_39 (by decide) ?_
        refine x_iret C hQ dX5_screen_48 (Nat.le_refl _) (Nat.le_refl _) ?_
        exact ⟨rfl, _, rfl, by rw [q_screen, if_neg (by omega), codeF_find, ex1], ⟨_, _, _, _, _, _, _, _, _, _, _, _, _, _, _, hN2, hU, hK, hlU, hlK, ⟨jt, ht⟩, hO⟩, hfA⟩
    · refine x_iconst C dX5_screen_22 ⟨by decide, by decide⟩ ?_
      refine x_iret C hQ dX5_screen_23 (Nat.le_refl _) (Nat.le_refl _) ?_
      exact ⟨rfl, _, rfl, by rw [q_screen, if_pos (by omega)], ⟨_, _, _, _, _, _, _, _, _, _, _, _, _, _, _, hN2, hU, hK, hlU, hlK, ⟨jt, ht⟩, hO⟩, hfA⟩

set_option maxHeartbeats 1000000 in
set_option maxRecDepth 100000 in
theorem c_X5_row (l : Launch) {w : mW} {h : Nat} {D : mD} (hM : isM w h D) (hD : wfD D) (p q : Int) : Ci l yX5_row cX5_row 3 (some .int) 4 [vr h, vi p, vi q] w (fun z w' => z = q_row D.F p q ∧ isM w' h D ∧ frR w w' h (h + 23)) := by
  refine Ci.of (ml := [some (vr h), some (vi p), some (vi q)]) kyX5_row rfl (Nat.le_of_ble_eq_true rfl) rfl ?_
  intro t n C hQ
  have hM2 := hM
  obtain ⟨wp, wr, ac, ra, rn, M14, M15, M16, M17, M18, M19, M20, M21, M22, M23, hN, hU, hK, hlU, hlK, ⟨jt, ht⟩, hO⟩ := hM
  have hfA : frR w w h (h + 23) := frR.rf
  have hN2 := hN
  obtain ⟨j1, j2, j3, j4, j5, j6, pi, lr, lc, M7, M8, M9, M10, M11, M12, M13, hr⟩ := hN
  obtain ⟨f1, f2, f3, f4, f5, f6, f7, f8, f9, f10, f11, f12⟩ := id hD.2.1
  have hw : ∀ f ∈ D.F.1.2.1, (0 ≤ f.1 ∧ f.1 ≤ 100) ∧ (0 ≤ f.2.1 ∧ f.2.1 ≤ 100) ∧ (f.2.2 = 0 ∨ f.2.2 = 1) := fun f hf9 => by have := f4 f hf9; omega
  have hsm := hD.2.1.sm
  have hwT := (wfF_iff D.F).mp hD.2.1
  refine x_aload_n C dX5_row_0 rfl ?_
  refine y_v0 C dX5_row_1 kyX5_setScreen knX5_setScreen kmX5_150 hr.o (c_X5_setScreen l hN2 hD.2.1) (by decide) (Nat.zero_le _) (Nat.zero_le _) (Nat.le_of_ble_eq_true rfl) (fun w1 q1 => ?_)
  obtain ⟨hNs, hf9⟩ := q1
  have hfA := hfA.tr hf9
  have hN2 := hNs.n
  obtain ⟨j1, j2, j3, j4, j5, j6, J7, J8, J9, J10, J11, J12, J13, hr⟩ := id hNs
  have l7 := hr.l7
  have l8 := hr.l8
  have l9 := hr.l9
  have l10 := hr.l10
  have l11 := hr.l11
  have l12 := hr.l12
  have l13 := hr.l13
  simp only [List.length_append, List.length_map] at l7 l8 l9 l10 l11 l12 l13
  refine x_aload_n C dX5_row_4 rfl ?_
  refine x_iload_n C dX5_row_5 rfl ?_
  refine y_p1 C dX5_row_6 kyX5_isRow knX5_isRow kmX5_223 hr.o (c_X5_isRow l hr p) (by decide) (Nat.zero_le _) (Nat.zero_le _) (Nat.le_of_ble_eq_true rfl) (fun z6 q6 => ?_)
  refine x_if_eq (tgt := 21) C dX5_row_9 (by decide) (fun c9 => ?_) (fun c9 => ?_)
  · refine x_iconst C dX5_row_21 ⟨by decide, by decide⟩ ?_
    refine x_iret C hQ dX5_row_22 (Nat.le_refl _) (Nat.le_refl _) ?_
    exact ⟨rfl, _, rfl, by unfold q_row; (repeat' split) <;> omega, ⟨_, _, _, _, _, _, _, _, _, _, _, _, _, _, _, hN2, hU, hK, hlU, hlK, ⟨jt, ht⟩, hO⟩, hfA⟩
  · refine x_iload_n C dX5_row_12 rfl ?_
    refine x_iconst C dX5_row_13 ⟨by decide, by decide⟩ ?_
    refine x_iconst C dX5_row_14 ⟨by decide, by decide⟩ ?_
    refine z_p3 C dX5_row_15 kyX5_in ksX5_in kmX5_103 (c_X5_in l q 0 1) (by decide) (Nat.zero_le _) (Nat.zero_le _) (Nat.le_of_ble_eq_true rfl) (fun z15 q15 => ?_)
    refine x_if_ne (tgt := 23) C dX5_row_18 (by decide) (fun c18 => ?_) (fun c18 => ?_)
    · refine x_iload_n C dX5_row_23 rfl ?_
      refine x_if_ne (tgt := 36) C dX5_row_24 (by decide) (fun c24 => ?_) (fun c24 => ?_)
      · refine x_aload_n C dX5_row_36 rfl ?_
        refine x_get C dX5_row_37 kfX5_56 hr.o rfl ?_
        refine x_iload_n C dX5_row_40 rfl ?_
        refine x_iald C dX5_row_41 hr.a13 (by omega) (by rw [hr.l13]; omega) ?_
        refine x_iret C hQ dX5_row_42 (Nat.le_refl _) (Nat.le_refl _) ?_
        exact ⟨rfl, _, rfl, by rw [q_row, if_neg (by omega), if_neg (by omega), if_pos (by omega)]; exact gd_app_l (by rw [List.length_map]; omega), ⟨_, _, _, _, _, _, _, _, _, _, _, _, _, _, _, hN2, hU, hK, hlU, hlK, ⟨jt, ht⟩, hO⟩, hfA⟩
      · refine x_aload_n C dX5_row_27 rfl ?_
        refine x_get C dX5_row_28 kfX5_53 hr.o rfl ?_
        refine x_iload_n C dX5_row_31 rfl ?_
        refine x_iald C dX5_row_32 hr.a12 (by omega) (by rw [hr.l12]; omega) ?_
        refine x_goto (tgt := 42) C dX5_row_33 (by decide) ?_
        refine x_iret C hQ dX5_row_42 (Nat.le_refl _) (Nat.le_refl _) ?_
        exact ⟨rfl, _, rfl, by rw [q_row, if_neg (by omega), if_pos (by omega)]; exact gd_app_l (by rw [List.length_map]; omega), ⟨_, _, _, _, _, _, _, _, _, _, _, _, _, _, _, hN2, hU, hK, hlU, hlK, ⟨jt, ht⟩, hO⟩, hfA⟩
    · refine x_iconst C dX5_row_21 ⟨by decide, by decide⟩ ?_
      refine x_iret C hQ dX5_row_22 (Nat.le_refl _) (Nat.le_refl _) ?_
      exact ⟨rfl, _, rfl, by unfold q_row; (repeat' split) <;> omega, ⟨_, _, _, _, _, _, _, _, _, _, _, _, _, _, _, hN2, hU, hK, hlU, hlK, ⟨jt, ht⟩, hO⟩, hfA⟩

set_option maxHeartbeats 1000000 in
set_option maxRecDepth 100000 in
theorem lp_X5_go_n {t : TX} {l : Launch} {n0 : Nat} {w : mW} {h : Nat} {F : mF} {um sm wp wr ac sz ra rn : Int} {M14 M15 M16 M17 M18 M19 M20 M21 M22 M23 : List Int} (hN : isN w h F um sm wp wr ac sz ra rn M14 M15 M16 M17 M18 M19 M20 M21 M22 M23) (hW : wfF F) (p q : Int) (hp : 0 ≤ p ∧ p ≤ F.1.1.length) {x5 x6 : Option mV} (C : Cb t l cX5_go RX5 7 (some .int) 4 0 0) {Q : Int → mW → Prop} (hQ : RQ t 0 0 (fun r n' w' => n' = n0 ∧ ∃ z : Int, r = some (vi z) ∧ Q z w')) (hq : ∀ z, isNext F.1.2.1 F.1.1.length p z → Q z w) : ∀ (m : Nat) (v : Int), F.1.1.length + 2 ≤ v + m → p < v → (∀ x, p < x → x < v → hold F.1.2.1 x ≠ x) → v ≤ F.1.1.length + 1 → J t 0 0 39 [some (vr h), some (vi p), some (vi q), some (vi (1)), some (vi v), x5, x6] [] n0 w := by
  obtain ⟨j1, j2, j3, j4, j5, j6, pi, lr, lc, M7, M8, M9, M10, M11, M12, M13, hr⟩ := hN
  obtain ⟨f1, f2, f3, f4, f5, f6, f7, f8, f9, f10, f11, f12⟩ := id hW
  have hw : ∀ f ∈ F.1.2.1, (0 ≤ f.1 ∧ f.1 ≤ 100) ∧ (0 ≤ f.2.1 ∧ f.2.1 ≤ 100) ∧ (f.2.2 = 0 ∨ f.2.2 = 1) := fun f hf9 => by have := f4 f hf9; omega
  intro m
  induction m with
  | zero => intro v hm; omega
  | succ m ih =>
    intro v hm hv hno hvn
    refine x_aload_n C dX5_go_39 rfl ?_
    refine x_iload C dX5_go_40 rfl ?_
    refine y_p1 C dX5_go_42 kyX5_isPlace knX5_isPlace kmX5_153 hr.o (c_X5_isPlace l hr v) (by decide) (Nat.zero_le _) (Nat.zero_le _) (Nat.le_of_ble_eq_true rfl) (fun z42 q42 => ?_)
    refine x_if_eq (tgt := 66) C dX5_go_45 (by decide) (fun c45 => ?_) (fun c45 => ?_)
    · refine x_aload_n C dX5_go_66 rfl ?_
      refine x_iload C dX5_go_67 rfl ?_
      refine y_p1 C dX5_go_69 kyX5_isPlace knX5_isPlace kmX5_153 hr.o (c_X5_isPlace l hr v) (by decide) (Nat.zero_le _) (Nat.zero_le _) (Nat.le_of_ble_eq_true rfl) (fun z69 q69 => ?_)
      refine x_if_eq (tgt := 80) C dX5_go_72 (by decide) (fun c72 => ?_) (fun c72 => ?_)
      · refine x_bipush C dX5_go_80 ⟨by decide, by decide⟩ ?_
        refine x_iret C hQ dX5_go_82 (Nat.le_refl _) (Nat.le_refl _) ?_
        exact ⟨rfl, _, rfl, hq (-4) (Or.inr ⟨rfl, fun x h1 h2 => hno x h1 (by omega)⟩)⟩
      · refine x_iload C dX5_go_75 rfl ?_
        refine x_goto (tgt := 82) C dX5_go_77 (by decide) ?_
        refine x_iret C hQ dX5_go_82 (Nat.le_refl _) (Nat.le_refl _) ?_
        omega
    · refine x_aload_n C dX5_go_48 rfl ?_
      refine x_iload C dX5_go_49 rfl ?_
      refine y_p1 C dX5_go_51 kyX5_isShown knX5_isShown kmX5_162 hr.o (c_X5_isShown l hr hw f5 v) (by decide) (Nat.zero_le _) (Nat.zero_le _) (Nat.le_of_ble_eq_true rfl) (fun z51 q51 => ?_)
      refine x_if_ne (tgt := 66) C dX5_go_54 (by decide) (fun c54 => ?_) (fun c54 => ?_)
      · refine x_aload_n C dX5_go_66 rfl ?_
        refine x_iload C dX5_go_67 rfl ?_
        refine y_p1 C dX5_go_69 kyX5_isPlace knX5_isPlace kmX5_153 hr.o (c_X5_isPlace l hr v) (by decide) (Nat.zero_le _) (Nat.zero_le _) (Nat.le_of_ble_eq_true rfl) (fun z69 q69 => ?_)
        refine x_if_eq (tgt := 80) C dX5_go_72 (by decide) (fun c72 => ?_) (fun c72 => ?_)
        · refine x_bipush C dX5_go_80 ⟨by decide, by decide⟩ ?_
          refine x_iret C hQ dX5_go_82 (Nat.le_refl _) (Nat.le_refl _) ?_
          omega
        · refine x_iload C dX5_go_75 rfl ?_
          refine x_goto (tgt := 82) C dX5_go_77 (by decide) ?_
          refine x_iret C hQ dX5_go_82 (Nat.le_refl _) (Nat.le_refl _) ?_
          exact ⟨rfl, _, rfl, hq v (Or.inl ⟨by omega, by omega, q51.2.mp (by omega), hno⟩)⟩
      · refine x_iload C dX5_go_57 rfl ?_
        refine x_iload_n C dX5_go_59 rfl ?_
        refine x_iadd C dX5_go_60 (by first | (unfold iR; omega) | exact ⟨by omega, by omega⟩) ?_
        refine s_is7_4 C dX5_go_61 rfl ?_
        refine x_goto (tgt := 39) C dX5_go_63 (by decide) ?_
        exact ih (v + 1) (by omega) (by omega) (fun x h1 h2 => by
          by_cases hx : x = v
          · subst hx; intro h3; have := q51.2.mpr h3; omega
          · exact hno x h1 (by omega)) (by omega)

set_option maxHeartbeats 1000000 in
set_option maxRecDepth 100000 in
theorem lp_X5_go_p {t : TX} {l : Launch} {n0 : Nat} {w : mW} {h : Nat} {F : mF} {um sm wp wr ac sz ra rn : Int} {M14 M15 M16 M17 M18 M19 M20 M21 M22 M23 : List Int} (hN : isN w h F um sm wp wr ac sz ra rn M14 M15 M16 M17 M18 M19 M20 M21 M22 M23) (hW : wfF F) (p q : Int) (hp : 0 ≤ p ∧ p ≤ F.1.1.length) {x5 x6 : Option mV} (C : Cb t l cX5_go RX5 7 (some .int) 4 0 0) {Q : Int → mW → Prop} (hQ : RQ t 0 0 (fun r n' w' => n' = n0 ∧ ∃ z : Int, r = some (vi z) ∧ Q z w')) (hq : ∀ z, isPrev F.1.2.1 p z → Q z w) : ∀ (m : Nat) (v : Int), v + 2 ≤ m → v < p → (∀ x, v < x → x < p → hold F.1.2.1 x ≠ x) → -1 ≤ v → J t 0 0 39 [some (vr h), some (vi p), some (vi q), some (vi (-1)), some (vi v), x5, x6] [] n0 w := by
  obtain ⟨j1, j2, j3, j4, j5, j6, pi, lr, lc, M7, M8, M9, M10, M11, M12, M13, hr⟩ := hN
  obtain ⟨f1, f2, f3, f4, f5, f6, f7, f8, f9, f10, f11, f12⟩ := id hW
  have hw : ∀ f ∈ F.1.2.1, (0 ≤ f.1 ∧ f.1 ≤ 100) ∧ (0 ≤ f.2.1 ∧ f.2.1 ≤ 100) ∧ (f.2.2 = 0 ∨ f.2.2 = 1) := fun f hf9 => by have := f4 f hf9; omega
  intro m
  induction m with
  | zero => intro v hm; omega
  | succ m ih =>
    intro v hm hv hno hvn
    refine x_aload_n C dX5_go_39 rfl ?_
    refine x_iload C dX5_go_40 rfl ?_
    refine y_p1 C dX5_go_42 kyX5_isPlace knX5_isPlace kmX5_153 hr.o (c_X5_isPlace l hr v) (by decide) (Nat.zero_le _) (Nat.zero_le _) (Nat.le_of_ble_eq_true rfl) (fun z42 q42 => ?_)
    refine x_if_eq (tgt := 66) C dX5_go_45 (by decide) (fun c45 => ?_) (fun c45 => ?_)
    · refine x_aload_n C dX5_go_66 rfl ?_
      refine x_iload C dX5_go_67 rfl ?_
      refine y_p1 C dX5_go_69 kyX5_isPlace knX5_isPlace kmX5_153 hr.o (c_X5_isPlace l hr v) (by decide) (Nat.zero_le _) (Nat.zero_le _) (Nat.le_of_ble_eq_true rfl) (fun z69 q69 => ?_)
      refine x_if_eq (tgt := 80) C dX5_go_72 (by decide) (fun c72 => ?_) (fun c72 => ?_)
      · refine x_bipush C dX5_go_80 ⟨by decide, by decide⟩ ?_
        refine x_iret C hQ dX5_go_82 (Nat.le_refl _) (Nat.le_refl _) ?_
        exact ⟨rfl, _, rfl, hq (-4) (Or.inr ⟨rfl, fun x h1 h2 => hno x (by omega) h2⟩)⟩
      · refine x_iload C dX5_go_75 rfl ?_
        refine x_goto (tgt := 82) C dX5_go_77 (by decide) ?_
        refine x_iret C hQ dX5_go_82 (Nat.le_refl _) (Nat.le_refl _) ?_
        omega
    · refine x_aload_n C dX5_go_48 rfl ?_
      refine x_iload C dX5_go_49 rfl ?_
      refine y_p1 C dX5_go_51 kyX5_isShown knX5_isShown kmX5_162 hr.o (c_X5_isShown l hr hw f5 v) (by decide) (Nat.zero_le _) (Nat.zero_le _) (Nat.le_of_ble_eq_true rfl) (fun z51 q51 => ?_)
      refine x_if_ne (tgt := 66) C dX5_go_54 (by decide) (fun c54 => ?_) (fun c54 => ?_)
      · refine x_aload_n C dX5_go_66 rfl ?_
        refine x_iload C dX5_go_67 rfl ?_
        refine y_p1 C dX5_go_69 kyX5_isPlace knX5_isPlace kmX5_153 hr.o (c_X5_isPlace l hr v) (by decide) (Nat.zero_le _) (Nat.zero_le _) (Nat.le_of_ble_eq_true rfl) (fun z69 q69 => ?_)
        refine x_if_eq (tgt := 80) C dX5_go_72 (by decide) (fun c72 => ?_) (fun c72 => ?_)
        · refine x_bipush C dX5_go_80 ⟨by decide, by decide⟩ ?_
          refine x_iret C hQ dX5_go_82 (Nat.le_refl _) (Nat.le_refl _) ?_
          omega
        · refine x_iload C dX5_go_75 rfl ?_
          refine x_goto (tgt := 82) C dX5_go_77 (by decide) ?_
          refine x_iret C hQ dX5_go_82 (Nat.le_refl _) (Nat.le_refl _) ?_
          exact ⟨rfl, _, rfl, hq v (Or.inl ⟨by omega, by omega, q51.2.mp (by omega), hno⟩)⟩
      · refine x_iload C dX5_go_57 rfl ?_
        refine x_iload_n C dX5_go_59 rfl ?_
        refine x_iadd C dX5_go_60 (by first | (unfold iR; omega) | exact ⟨by omega, by omega⟩) ?_
        refine s_is7_4 C dX5_go_61 rfl ?_
        refine x_goto (tgt := 39) C dX5_go_63 (by decide) ?_
        exact ih (v + -1) (by omega) (by omega) (fun x h1 h2 => by
          by_cases hx : x = v
          · subst hx; intro h3; have := q51.2.mpr h3; omega
          · exact hno x (by omega) h2) (by omega)

set_option maxHeartbeats 1000000 in
set_option maxRecDepth 100000 in
theorem c_X5_go (l : Launch) {w : mW} {h : Nat} {D : mD} (hM : isM w h D) (hD : wfD D) (p q : Int) : Ci l yX5_go cX5_go 7 (some .int) 4 [vr h, vi p, vi q] w (fun z w' => q_go D.F p q z ∧ isM w' h D ∧ frR w w' h (h + 23)) := by
  refine Ci.of (ml := [some (vr h), some (vi p), some (vi q), none, none, none, none]) kyX5_go rfl (Nat.le_of_ble_eq_true rfl) rfl ?_
  intro t n C hQ
  have hM2 := hM
  obtain ⟨wp, wr, ac, ra, rn, M14, M15, M16, M17, M18, M19, M20, M21, M22, M23, hN, hU, hK, hlU, hlK, ⟨jt, ht⟩, hO⟩ := hM
  have hfA : frR w w h (h + 23) := frR.rf
  have hN2 := hN
  obtain ⟨j1, j2, j3, j4, j5, j6, pi, lr, lc, M7, M8, M9, M10, M11, M12, M13, hr⟩ := hN
  obtain ⟨f1, f2, f3, f4, f5, f6, f7, f8, f9, f10, f11, f12⟩ := id hD.2.1
  have hw : ∀ f ∈ D.F.1.2.1, (0 ≤ f.1 ∧ f.1 ≤ 100) ∧ (0 ≤ f.2.1 ∧ f.2.1 ≤ 100) ∧ (f.2.2 = 0 ∨ f.2.2 = 1) := fun f hf9 => by have := f4 f hf9; omega
  have hsm := hD.2.1.sm
  have hwT := (wfF_iff D.F).mp hD.2.1
  refine x_aload_n C dX5_go_0 rfl ?_
  refine x_iload_n C dX5_go_1 rfl ?_
  refine y_p1 C dX5_go_2 kyX5_isPlace knX5_isPlace kmX5_153 hr.o (c_X5_isPlace l hr p) (by decide) (Nat.zero_le _) (Nat.zero_le _) (Nat.le_of_ble_eq_true rfl) (fun z2 q2 => ?_)
  refine x_if_eq (tgt := 17) C dX5_go_5 (by decide) (fun c5 => ?_) (fun c5 => ?_)
  · refine x_iconst C dX5_go_17 ⟨by decide, by decide⟩ ?_
    refine x_iret C hQ dX5_go_18 (Nat.le_refl _) (Nat.le_refl _) ?_
    exact ⟨rfl, _, rfl, ⟨fun _ => rfl, fun h9 => ⟨fun h8 => by omega, fun h8 => by omega, fun h8 => by omega, fun h8 => by omega, fun _ => rfl⟩⟩, hM2, frR.rf⟩
  · refine x_iload_n C dX5_go_8 rfl ?_
    refine x_iconst C dX5_go_9 ⟨by decide, by decide⟩ ?_
    refine x_iconst C dX5_go_10 ⟨by decide, by decide⟩ ?_
    refine z_p3 C dX5_go_11 kyX5_in ksX5_in kmX5_103 (c_X5_in l q 0 3) (by decide) (Nat.zero_le _) (Nat.zero_le _) (Nat.le_of_ble_eq_true rfl) (fun z11 q11 => ?_)
    refine x_if_ne (tgt := 19) C dX5_go_14 (by decide) (fun c14 => ?_) (fun c14 => ?_)
    · refine x_iload_n C dX5_go_19 rfl ?_
      refine x_iconst C dX5_go_20 ⟨by decide, by decide⟩ ?_
      refine x_icmp_ge (tgt := 83) C dX5_go_21 (by decide) (fun c21 => ?_) (fun c21 => ?_)
      · refine x_aload_n C dX5_go_83 rfl ?_
        refine y_v0 C dX5_go_84 kyX5_setScreen knX5_setScreen kmX5_150 hr.o (c_X5_setScreen l hN2 hD.2.1) (by decide) (Nat.zero_le _) (Nat.zero_le _) (Nat.le_of_ble_eq_true rfl) (fun w84 q84 => ?_)
        obtain ⟨hNs, hf9⟩ := q84
        have hfA := hfA.tr hf9
        have hN2 := hNs.n
        obtain ⟨j1, j2, j3, j4, j5, j6, J7, J8, J9, J10, J11, J12, J13, hr⟩ := id hNs
        have l7 := hr.l7
        have l8 := hr.l8
        have l9 := hr.l9
        have l10 := hr.l10
        have l11 := hr.l11
        have l12 := hr.l12
        have l13 := hr.l13
        simp only [List.length_append, List.length_map] at l7 l8 l9 l10 l11 l12 l13
        refine x_aload_n C dX5_go_87 rfl ?_
        refine x_iload_n C dX5_go_88 rfl ?_
        refine y_p1 C dX5_go_89 kyX5_pieceOf knX5_pieceOf kmX5_217 hr.o (c_X5_pieceOf l hNs hD.2.1 p) (by decide) (Nat.zero_le _) (Nat.zero_le _) (Nat.le_of_ble_eq_true rfl) (fun z89 q89 => ?_)
        have hrb := rowP_bd (scr_len hD.2.1) (p := p)
        refine s_ist7_3 C dX5_go_92 rfl ?_
        refine x_iload_n C dX5_go_93 rfl ?_
        refine x_bipush C dX5_go_94 ⟨by decide, by decide⟩ ?_
        refine x_icmp_ne (tgt := 106) C dX5_go_96 (by decide) (fun c96 => ?_) (fun c96 => ?_)
        · have hz := (q89.2 c96).2
          refine x_aload_n C dX5_go_106 rfl ?_
          refine x_get C dX5_go_107 kfX5_44 hr.o rfl ?_
          refine x_iload_n C dX5_go_110 rfl ?_
          refine x_iald C dX5_go_111 hr.a9 (by omega) (by rw [hr.l9]; omega) ?_
          have erow : ((scr D.F).1.map (fun q => q.2.2.1) ++ J9).getD z89.toNat 0 = rowP D.F p := by
            rw [rowP, if_neg (fun h9 => c96 (q89.1.mpr h9)), ← (q89.2 c96).1]; exact gd_app_l (by rw [List.length_map]; omega)
          rw [erow]
          refine s_is7_4 C dX5_go_112 rfl ?_
          refine x_iload_n C dX5_go_114 rfl ?_
          refine x_bipush C dX5_go_115 ⟨by decide, by decide⟩ ?_
          refine x_icmp_ne (tgt := 127) C dX5_go_117 (by decide) (fun c117 => ?_) (fun c117 => ?_)
          · have hz := (q89.2 c117).2
            refine x_aload_n C dX5_go_127 rfl ?_
            refine x_get C dX5_go_128 kfX5_47 hr.o rfl ?_
            refine x_iload_n C dX5_go_131 rfl ?_
            refine x_iald C dX5_go_132 hr.a10 (by omega) (by rw [hr.l10]; omega) ?_
            have ecol : ((scr D.F).1.map (fun q => q.2.2.2.1) ++ J10).getD z89.toNat 0 = colP D.F p := by
              rw [colP, if_neg (fun h9 => c96 (q89.1.mpr h9)), ← (q89.2 c96).1]; exact gd_app_l (by rw [List.length_map]; omega)
            rw [ecol]
            refine s_is7_5 C dX5_go_133 rfl ?_
            refine x_iload_n C dX5_go_135 rfl ?_
            refine x_iconst C dX5_go_136 ⟨by decide, by decide⟩ ?_
            refine x_icmp_ne (tgt := 147) C dX5_go_137 (by decide) (fun c137 => ?_) (fun c137 => ?_)
            · refine x_iload C dX5_go_147 rfl ?_
              refine x_iconst C dX5_go_149 ⟨by decide, by decide⟩ ?_
              refine x_iadd C dX5_go_150 (by first | (unfold iR; omega) | exact ⟨by omega, by omega⟩) ?_
              refine s_is7_6 C dX5_go_151 rfl ?_
              refine x_aload_n C dX5_go_153 rfl ?_
              refine x_iload C dX5_go_154 rfl ?_
              refine y_p1 C dX5_go_156 kyX5_isRow knX5_isRow kmX5_223 hr.o (c_X5_isRow l hr _) (by decide) (Nat.zero_le _) (Nat.zero_le _) (Nat.le_of_ble_eq_true rfl) (fun z156 q156 => ?_)
              refine x_if_eq (tgt := 173) C dX5_go_159 (by decide) (fun c159 => ?_) (fun c159 => ?_)
              · refine x_bipush C dX5_go_173 ⟨by decide, by decide⟩ ?_
                refine x_iret C hQ dX5_go_175 (Nat.le_refl _) (Nat.le_refl _) ?_
                have hp9 : 0 ≤ p ∧ p ≤ (D.F.1.1.length : Int) := by omega
                refine ⟨rfl, _, rfl, ⟨fun h9 => absurd hp9 h9, fun _ => ⟨fun h8 => absurd h8 (by omega), fun h8 => absurd h8 (by omega), fun h8 => absurd h8 (by omega), fun h8 => by
                    rw [acrP, if_neg (by omega)], fun h8 => absurd h8 (by omega)⟩⟩, ⟨_, _, _, _, _, _, _, _, _, _, _, _, _, _, _, hN2, hU, hK, hlU, hlK, ⟨jt, ht⟩, hO⟩, hfA⟩
              · refine x_aload_n C dX5_go_162 rfl ?_
                refine x_iload C dX5_go_163 rfl ?_
                refine x_iload C dX5_go_165 rfl ?_
                refine y_p2 C dX5_go_167 kyX5_placeAt knX5_placeAt kmX5_226 hr.o (c_X5_placeAt l hNs hD.2.1 _ _ (by omega)) (by decide) (Nat.zero_le _) (Nat.zero_le _) (Nat.le_of_ble_eq_true rfl) (fun z167 q167 => ?_)
                refine x_goto (tgt := 175) C dX5_go_170 (by decide) ?_
                refine x_iret C hQ dX5_go_175 (Nat.le_refl _) (Nat.le_refl _) ?_
                have hp9 : 0 ≤ p ∧ p ≤ (D.F.1.1.length : Int) := by omega
                refine ⟨rfl, _, rfl, ⟨fun h9 => absurd hp9 h9, fun _ => ⟨fun h8 => absurd h8 (by omega), fun h8 => absurd h8 (by omega), fun h8 => absurd h8 (by omega), fun h8 => by
                    rw [q167, ← plcF_flt, acrP, if_pos (by omega)], fun h8 => absurd h8 (by omega)⟩⟩, ⟨_, _, _, _, _, _, _, _, _, _, _, _, _, _, _, hN2, hU, hK, hlU, hlK, ⟨jt, ht⟩, hO⟩, hfA⟩
            · refine x_iload C dX5_go_140 rfl ?_
              refine x_iconst C dX5_go_142 ⟨by decide, by decide⟩ ?_
              refine x_isub C dX5_go_143 (by first | (unfold iR; omega) | exact ⟨by omega, by omega⟩) ?_
              refine x_goto (tgt := 151) C dX5_go_144 (by decide) ?_
              refine s_is7_6 C dX5_go_151 rfl ?_
              refine x_aload_n C dX5_go_153 rfl ?_
              refine x_iload C dX5_go_154 rfl ?_
              refine y_p1 C dX5_go_156 kyX5_isRow knX5_isRow kmX5_223 hr.o (c_X5_isRow l hr _) (by decide) (Nat.zero_le _) (Nat.zero_le _) (Nat.le_of_ble_eq_true rfl) (fun z156 q156 => ?_)
              refine x_if_eq (tgt := 173) C dX5_go_159 (by decide) (fun c159 => ?_) (fun c159 => ?_)
              · refine x_bipush C dX5_go_173 ⟨by decide, by decide⟩ ?_
                refine x_iret C hQ dX5_go_175 (Nat.le_refl _) (Nat.le_refl _) ?_
                have hp9 : 0 ≤ p ∧ p ≤ (D.F.1.1.length : Int) := by omega
                refine ⟨rfl, _, rfl, ⟨fun h9 => absurd hp9 h9, fun _ => ⟨fun h8 => absurd h8 (by omega), fun h8 => absurd h8 (by omega), fun h8 => by
                    rw [acrP, if_neg (by omega)], fun h8 => absurd h8 (by omega), fun h8 => absurd h8 (by omega)⟩⟩, ⟨_, _, _, _, _, _, _, _, _, _, _, _, _, _, _, hN2, hU, hK, hlU, hlK, ⟨jt, ht⟩, hO⟩, hfA⟩
              · refine x_aload_n C dX5_go_162 rfl ?_
                refine x_iload C dX5_go_163 rfl ?_
                refine x_iload C dX5_go_165 rfl ?_
                refine y_p2 C dX5_go_167 kyX5_placeAt knX5_placeAt kmX5_226 hr.o (c_X5_placeAt l hNs hD.2.1 _ _ (by omega)) (by decide) (Nat.zero_le _) (Nat.zero_le _) (Nat.le_of_ble_eq_true rfl) (fun z167 q167 => ?_)
                refine x_goto (tgt := 175) C dX5_go_170 (by decide) ?_
                refine x_iret C hQ dX5_go_175 (Nat.le_refl _) (Nat.le_refl _) ?_
                have hp9 : 0 ≤ p ∧ p ≤ (D.F.1.1.length : Int) := by omega
                refine ⟨rfl, _, rfl, ⟨fun h9 => absurd hp9 h9, fun _ => ⟨fun h8 => absurd h8 (by omega), fun h8 => absurd h8 (by omega), fun h8 => by
                    rw [q167, ← plcF_flt, acrP, if_pos (by omega)], fun h8 => absurd h8 (by omega), fun h8 => absurd h8 (by omega)⟩⟩, ⟨_, _, _, _, _, _, _, _, _, _, _, _, _, _, _, hN2, hU, hK, hlU, hlK, ⟨jt, ht⟩, hO⟩, hfA⟩
          · omega
        · refine x_aload_n C dX5_go_99 rfl ?_
          refine x_get C dX5_go_100 kfX5_144 hr.o rfl ?_
          refine x_goto (tgt := 112) C dX5_go_103 (by decide) ?_
          have erow : ((scr D.F).2.length : Int) - 1 = rowP D.F p := by rw [rowP, if_pos (q89.1.mp c96)]
          rw [erow]
          refine s_is7_4 C dX5_go_112 rfl ?_
          refine x_iload_n C dX5_go_114 rfl ?_
          refine x_bipush C dX5_go_115 ⟨by decide, by decide⟩ ?_
          refine x_icmp_ne (tgt := 127) C dX5_go_117 (by decide) (fun c117 => ?_) (fun c117 => ?_)
          · omega
          · refine x_aload_n C dX5_go_120 rfl ?_
            refine x_get C dX5_go_121 kfX5_147 hr.o rfl ?_
            refine x_goto (tgt := 133) C dX5_go_124 (by decide) ?_
            have ecol : lastC (scr D.F).2 = colP D.F p := by rw [colP, if_pos (q89.1.mp c96)]
            rw [ecol]
            refine s_is7_5 C dX5_go_133 rfl ?_
            refine x_iload_n C dX5_go_135 rfl ?_
            refine x_iconst C dX5_go_136 ⟨by decide, by decide⟩ ?_
            refine x_icmp_ne (tgt := 147) C dX5_go_137 (by decide) (fun c137 => ?_) (fun c137 => ?_)
            · refine x_iload C dX5_go_147 rfl ?_
              refine x_iconst C dX5_go_149 ⟨by decide, by decide⟩ ?_
              refine x_iadd C dX5_go_150 (by first | (unfold iR; omega) | exact ⟨by omega, by omega⟩) ?_
              refine s_is7_6 C dX5_go_151 rfl ?_
              refine x_aload_n C dX5_go_153 rfl ?_
              refine x_iload C dX5_go_154 rfl ?_
              refine y_p1 C dX5_go_156 kyX5_isRow knX5_isRow kmX5_223 hr.o (c_X5_isRow l hr _) (by decide) (Nat.zero_le _) (Nat.zero_le _) (Nat.le_of_ble_eq_true rfl) (fun z156 q156 => ?_)
              refine x_if_eq (tgt := 173) C dX5_go_159 (by decide) (fun c159 => ?_) (fun c159 => ?_)
              · refine x_bipush C dX5_go_173 ⟨by decide, by decide⟩ ?_
                refine x_iret C hQ dX5_go_175 (Nat.le_refl _) (Nat.le_refl _) ?_
                have hp9 : 0 ≤ p ∧ p ≤ (D.F.1.1.length : Int) := by omega
                refine ⟨rfl, _, rfl, ⟨fun h9 => absurd hp9 h9, fun _ => ⟨fun h8 => absurd h8 (by omega), fun h8 => absurd h8 (by omega), fun h8 => absurd h8 (by omega), fun h8 => by
                    rw [acrP, if_neg (by omega)], fun h8 => absurd h8 (by omega)⟩⟩, ⟨_, _, _, _, _, _, _, _, _, _, _, _, _, _, _, hN2, hU, hK, hlU, hlK, ⟨jt, ht⟩, hO⟩, hfA⟩
              · refine x_aload_n C dX5_go_162 rfl ?_
                refine x_iload C dX5_go_163 rfl ?_
                refine x_iload C dX5_go_165 rfl ?_
                refine y_p2 C dX5_go_167 kyX5_placeAt knX5_placeAt kmX5_226 hr.o (c_X5_placeAt l hNs hD.2.1 _ _ (by omega)) (by decide) (Nat.zero_le _) (Nat.zero_le _) (Nat.le_of_ble_eq_true rfl) (fun z167 q167 => ?_)
                refine x_goto (tgt := 175) C dX5_go_170 (by decide) ?_
                refine x_iret C hQ dX5_go_175 (Nat.le_refl _) (Nat.le_refl _) ?_
                have hp9 : 0 ≤ p ∧ p ≤ (D.F.1.1.length : Int) := by omega
                refine ⟨rfl, _, rfl, ⟨fun h9 => absurd hp9 h9, fun _ => ⟨fun h8 => absurd h8 (by omega), fun h8 => absurd h8 (by omega), fun h8 => absurd h8 (by omega), fun h8 => by
                    rw [q167, ← plcF_flt, acrP, if_pos (by omega)], fun h8 => absurd h8 (by omega)⟩⟩, ⟨_, _, _, _, _, _, _, _, _, _, _, _, _, _, _, hN2, hU, hK, hlU, hlK, ⟨jt, ht⟩, hO⟩, hfA⟩
            · refine x_iload C dX5_go_140 rfl ?_
              refine x_iconst C dX5_go_142 ⟨by decide, by decide⟩ ?_
              refine x_isub C dX5_go_143 (by first | (unfold iR; omega) | exact ⟨by omega, by omega⟩) ?_
              refine x_goto (tgt := 151) C dX5_go_144 (by decide) ?_
              refine s_is7_6 C dX5_go_151 rfl ?_
              refine x_aload_n C dX5_go_153 rfl ?_
              refine x_iload C dX5_go_154 rfl ?_
              refine y_p1 C dX5_go_156 kyX5_isRow knX5_isRow kmX5_223 hr.o (c_X5_isRow l hr _) (by decide) (Nat.zero_le _) (Nat.zero_le _) (Nat.le_of_ble_eq_true rfl) (fun z156 q156 => ?_)
              refine x_if_eq (tgt := 173) C dX5_go_159 (by decide) (fun c159 => ?_) (fun c159 => ?_)
              · refine x_bipush C dX5_go_173 ⟨by decide, by decide⟩ ?_
                refine x_iret C hQ dX5_go_175 (Nat.le_refl _) (Nat.le_refl _) ?_
                have hp9 : 0 ≤ p ∧ p ≤ (D.F.1.1.length : Int) := by omega
                refine ⟨rfl, _, rfl, ⟨fun h9 => absurd hp9 h9, fun _ => ⟨fun h8 => absurd h8 (by omega), fun h8 => absurd h8 (by omega), fun h8 => by
                    rw [acrP, if_neg (by omega)], fun h8 => absurd h8 (by omega), fun h8 => absurd h8 (by omega)⟩⟩, ⟨_, _, _, _, _, _, _, _, _, _, _, _, _, _, _, hN2, hU, hK, hlU, hlK, ⟨jt, ht⟩, hO⟩, hfA⟩
              · refine x_aload_n C dX5_go_162 rfl ?_
                refine x_iload C dX5_go_163 rfl ?_
                refine x_iload C dX5_go_165 rfl ?_
                refine y_p2 C dX5_go_167 kyX5_placeAt knX5_placeAt kmX5_226 hr.o (c_X5_placeAt l hNs hD.2.1 _ _ (by omega)) (by decide) (Nat.zero_le _) (Nat.zero_le _) (Nat.le_of_ble_eq_true rfl) (fun z167 q167 => ?_)
                refine x_goto (tgt := 175) C dX5_go_170 (by decide) ?_
                refine x_iret C hQ dX5_go_175 (Nat.le_refl _) (Nat.le_refl _) ?_
                have hp9 : 0 ≤ p ∧ p ≤ (D.F.1.1.length : Int) := by omega
                refine ⟨rfl, _, rfl, ⟨fun h9 => absurd hp9 h9, fun _ => ⟨fun h8 => absurd h8 (by omega), fun h8 => absurd h8 (by omega), fun h8 => by
                    rw [q167, ← plcF_flt, acrP, if_pos (by omega)], fun h8 => absurd h8 (by omega), fun h8 => absurd h8 (by omega)⟩⟩, ⟨_, _, _, _, _, _, _, _, _, _, _, _, _, _, _, hN2, hU, hK, hlU, hlK, ⟨jt, ht⟩, hO⟩, hfA⟩
      · refine x_iload_n C dX5_go_24 rfl ?_
        refine x_if_ne (tgt := 32) C dX5_go_25 (by decide) (fun c25 => ?_) (fun c25 => ?_)
        · refine x_iconst C dX5_go_32 ⟨by decide, by decide⟩ ?_
          refine s_ist7_3 C dX5_go_33 rfl ?_
          refine x_iload_n C dX5_go_34 rfl ?_
          refine x_iload_n C dX5_go_35 rfl ?_
          refine x_iadd C dX5_go_36 (by first | (unfold iR; omega) | exact ⟨by omega, by omega⟩) ?_
          refine s_is7_4 C dX5_go_37 rfl ?_
          have hp9 : 0 ≤ p ∧ p ≤ (D.F.1.1.length : Int) := by omega
          exact lp_X5_go_p hN2 hD.2.1 p q hp9 C hQ (fun z hz => ⟨⟨fun h9 => absurd hp9 h9, fun _ => ⟨fun h8 => absurd h8 (by omega), fun h8 => hz, fun h8 => absurd h8 (by omega), fun h8 => absurd h8 (by omega), fun h8 => absurd h8 (by omega)⟩⟩, hM2, frR.rf⟩) 43 (p + -1) (by omega) (by omega) (fun x h1 h2 => by omega) (by omega)
        · refine x_iconst C dX5_go_28 ⟨by decide, by decide⟩ ?_
          refine x_goto (tgt := 33) C dX5_go_29 (by decide) ?_
          refine s_ist7_3 C dX5_go_33 rfl ?_
          refine x_iload_n C dX5_go_34 rfl ?_
          refine x_iload_n C dX5_go_35 rfl ?_
          refine x_iadd C dX5_go_36 (by first | (unfold iR; omega) | exact ⟨by omega, by omega⟩) ?_
          refine s_is7_4 C dX5_go_37 rfl ?_
          have hp9 : 0 ≤ p ∧ p ≤ (D.F.1.1.length : Int) := by omega
          exact lp_X5_go_n hN2 hD.2.1 p q hp9 C hQ (fun z hz => ⟨⟨fun h9 => absurd hp9 h9, fun _ => ⟨fun h8 => hz, fun h8 => absurd h8 (by omega), fun h8 => absurd h8 (by omega), fun h8 => absurd h8 (by omega), fun h8 => absurd h8 (by omega)⟩⟩, hM2, frR.rf⟩) 42 (p + 1) (by omega) (by omega) (fun x h1 h2 => by omega) (by omega)
    · refine x_iconst C dX5_go_17 ⟨by decide, by decide⟩ ?_
      refine x_iret C hQ dX5_go_18 (Nat.le_refl _) (Nat.le_refl _) ?_
      exact ⟨rfl, _, rfl, ⟨fun _ => rfl, fun h9 => ⟨fun h8 => by omega, fun h8 => by omega, fun h8 => by omega, fun h8 => by omega, fun _ => rfl⟩⟩, hM2, frR.rf⟩
