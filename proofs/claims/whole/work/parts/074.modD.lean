/-! ===== the reference: its sheet, its screen ===== -/
def isN (w : mW) (h : Nat) (F : mF) (um sm wp wr ac sz ra rn : Int) (M14 M15 M16 M17 M18 M19 M20 M21 M22 M23 : List Int) : Prop := ∃ (j1 j2 j3 j4 j5 j6 : List Int) (pi lr lc : Int) (M7 M8 M9 M10 M11 M12 M13 : List Int), rM w h F.1.1.length F.1.2.1.length F.1.2.2.length F.2.1 F.2.2.1 F.2.2.2.1 F.2.2.2.2 pi lr lc um sm wp wr ac sz ra rn (F.1.1 ++ j1) (F.1.2.1.map (fun f => f.1) ++ j2) (F.1.2.1.map (fun f => f.2.1) ++ j3) (F.1.2.1.map (fun f => f.2.2) ++ j4) (F.1.2.2.map (fun q => q.1) ++ j5) (F.1.2.2.map (fun q => q.2) ++ j6) M7 M8 M9 M10 M11 M12 M13 M14 M15 M16 M17 M18 M19 M20 M21 M22 M23
def isNs (w : mW) (h : Nat) (F : mF) (S : mScr) (um sm wp wr ac sz ra rn : Int) (M14 M15 M16 M17 M18 M19 M20 M21 M22 M23 : List Int) : Prop := ∃ (j1 j2 j3 j4 j5 j6 : List Int) (J7 J8 J9 J10 J11 J12 J13 : List Int), rM w h F.1.1.length F.1.2.1.length F.1.2.2.length F.2.1 F.2.2.1 F.2.2.2.1 F.2.2.2.2 S.1.length ((S.2.length : Int) - 1) (lastC S.2) um sm wp wr ac sz ra rn (F.1.1 ++ j1) (F.1.2.1.map (fun f => f.1) ++ j2) (F.1.2.1.map (fun f => f.2.1) ++ j3) (F.1.2.1.map (fun f => f.2.2) ++ j4) (F.1.2.2.map (fun q => q.1) ++ j5) (F.1.2.2.map (fun q => q.2) ++ j6) (S.1.map (fun q => q.1) ++ J7) (S.1.map (fun q => q.2.1) ++ J8) (S.1.map (fun q => q.2.2.1) ++ J9) (S.1.map (fun q => q.2.2.2.1) ++ J10) (S.1.map (fun q => q.2.2.2.2) ++ J11) (S.2.map (fun q => q.1) ++ J12) (S.2.map (fun q => q.2) ++ J13) M14 M15 M16 M17 M18 M19 M20 M21 M22 M23
theorem isNs.n {w : mW} {h : Nat} {F : mF} {um sm wp wr ac sz ra rn : Int} {M14 M15 M16 M17 M18 M19 M20 M21 M22 M23 : List Int} {S : mScr} (hN : isNs w h F S um sm wp wr ac sz ra rn M14 M15 M16 M17 M18 M19 M20 M21 M22 M23) : isN w h F um sm wp wr ac sz ra rn M14 M15 M16 M17 M18 M19 M20 M21 M22 M23 := by
  obtain ⟨j1, j2, j3, j4, j5, j6, J7, J8, J9, J10, J11, J12, J13, hr⟩ := hN
  exact ⟨j1, j2, j3, j4, j5, j6, _, _, _, _, _, _, _, _, _, _, hr⟩
theorem isN.frN {w : mW} {h : Nat} {F : mF} {um sm wp wr ac sz ra rn : Int} {M14 M15 M16 M17 M18 M19 M20 M21 M22 M23 : List Int} {w' : mW} {lo up : Nat} (hN : isN w h F um sm wp wr ac sz ra rn M14 M15 M16 M17 M18 M19 M20 M21 M22 M23) (hf : frR w w' lo up) (hd : h + 23 < lo ∨ up < h) : isN w' h F um sm wp wr ac sz ra rn M14 M15 M16 M17 M18 M19 M20 M21 M22 M23 := by
  obtain ⟨j1, j2, j3, j4, j5, j6, pi, lr, lc, M7, M8, M9, M10, M11, M12, M13, hr⟩ := hN
  exact ⟨j1, j2, j3, j4, j5, j6, pi, lr, lc, M7, M8, M9, M10, M11, M12, M13, hr.fr hf hd⟩
theorem its_fix {F : mF} (hW : wfF F) : (∀ x ∈ (its F.1.1 F.1.2.1 F.1.2.2).map fixE, 0 ≤ x.2.2 ∧ x.2.2 ≤ 5) ∧ (∀ x ∈ (its F.1.1 F.1.2.1 F.1.2.2).map fixE, x.1 = 27 → x.2.2 = 0) ∧ ((its F.1.1 F.1.2.1 F.1.2.2).map fixE).length ≤ 44 := by
  obtain ⟨f1, f2, f3, f4, f5, f6, f7, f8, f9⟩ := hW
  refine ⟨fun x hx => ?_, fun x hx => ?_, ?_⟩
  · obtain ⟨y, hy, rfl⟩ := List.mem_map.mp hx
    have := gth_bd (fo := F.1.2.1) (fun q hq => (f7 q hq).2.2) (F.1.1.length + 1) y hy
    unfold fixE
    split
    · simp
    · exact this
  · obtain ⟨y, hy, rfl⟩ := List.mem_map.mp hx
    exact (fixE_1 y).2.2.2
  · rw [List.length_map]
    exact gth_44 f1 f6 _

set_option maxHeartbeats 1000000 in
set_option maxRecDepth 100000 in
theorem c_X5_setScreen (l : Launch) {w : mW} {h : Nat} {F : mF} {um sm wp wr ac sz ra rn : Int} {M14 M15 M16 M17 M18 M19 M20 M21 M22 M23 : List Int} (hN : isN w h F um sm wp wr ac sz ra rn M14 M15 M16 M17 M18 M19 M20 M21 M22 M23) (hW : wfF F) : Cv l yX5_setScreen cX5_setScreen 5 3 [vr h] w (fun w' => isNs w' h F (scr F) um sm wp wr ac sz ra rn M14 M15 M16 M17 M18 M19 M20 M21 M22 M23 ∧ frR w w' h (h + 23)) := by
  refine Cv.of (ml := [some (vr h), none, none, none, none]) kyX5_setScreen rfl (Nat.le_of_ble_eq_true rfl) rfl ?_
  intro t n C hQ
  have hf : frR w w h (h + 23) := frR.rf
  obtain ⟨j1, j2, j3, j4, j5, j6, pi, lr, lc, M7, M8, M9, M10, M11, M12, M13, hr⟩ := hN
  obtain ⟨f1, f2, f3, f4, f5, f6, f7, f8, f9, f10, f11, f12⟩ := id hW
  have hw : ∀ f ∈ F.1.2.1, (0 ≤ f.1 ∧ f.1 ≤ 100) ∧ (0 ≤ f.2.1 ∧ f.2.1 ≤ 100) ∧ (f.2.2 = 0 ∨ f.2.2 = 1) := fun f hf9 => by have := f4 f hf9; omega
  obtain ⟨g1, g2, g3⟩ := its_fix hW
  refine x_aload_n C dX5_setScreen_0 rfl ?_
  refine y_v0 C dX5_setScreen_1 kyX5_setPieces knX5_setPieces kmX5_134 hr.o (c_X5_setPieces l hr hw f5 f8 (fun f hf9 => ⟨(f4 f hf9).2.1, (f4 f hf9).2.2.1⟩) ⟨f1, f6⟩) (by decide) (Nat.zero_le _) (Nat.zero_le _) (Nat.le_of_ble_eq_true rfl) (fun w1 q1 => ?_)
  obtain ⟨J7, J8, J11, hr, hf9⟩ := q1
  have hf := hf.tr hf9
  have l13 := hr.l13
  obtain ⟨x13, J13, rfl⟩ : ∃ u v, M13 = u :: v := List.exists_cons_of_length_pos (by omega)
  refine x_iconst C dX5_setScreen_4 ⟨by decide, by decide⟩ ?_
  refine s_ist5_1 C dX5_setScreen_5 rfl ?_
  refine x_iconst C dX5_setScreen_6 ⟨by decide, by decide⟩ ?_
  refine s_ist5_2 C dX5_setScreen_7 rfl ?_
  refine x_iconst C dX5_setScreen_8 ⟨by decide, by decide⟩ ?_
  refine s_ist5_3 C dX5_setScreen_9 rfl ?_
  refine x_aload_n C dX5_setScreen_10 rfl ?_
  refine x_get C dX5_setScreen_11 kfX5_56 hr.o rfl ?_
  refine x_iconst C dX5_setScreen_14 ⟨by decide, by decide⟩ ?_
  refine x_iconst C dX5_setScreen_15 ⟨by decide, by decide⟩ ?_
  refine x_iast C dX5_setScreen_16 hr.a13 (by omega) (by rw [hr.l13]; omega) ?_
  refine ab_M_M13 hr hf (by rw [List.length_set]; exact hr.l13) (fun w hr hf => ?_)
  refine x_iconst C dX5_setScreen_17 ⟨by decide, by decide⟩ ?_
  refine s_is5_4 C dX5_setScreen_18 rfl ?_
  refine lp_X5_setScreen f9 f10 f11 f12 C hQ (PL := (scr F).1) (RW := (scr F).2) (fun w9 J7 J8 J9 J10 J11 J12 J13 h8 h9 => ⟨⟨j1, j2, j3, j4, j5, j6, J7, J8, J9, J10, J11, J12, J13, h8⟩, h9⟩) ((its F.1.1 F.1.2.1 F.1.2.2).map fixE) [] [] 1 0 0 0 0 false false lr lc J7 J8 M9 M10 J11 M12 J13 w ?_ hf rfl rfl (Or.inr ⟨rfl, rfl⟩) (by simp) ⟨by simp, by simpa using g3⟩ (by simp) g1 g2 ?_ ?_
  · simpa using hr
  · rw [flw_fix]; rfl
  · rw [flw_fix]; rfl

set_option maxHeartbeats 1000000 in
set_option maxRecDepth 100000 in
theorem c_X5_rows (l : Launch) {w : mW} {h : Nat} {F : mF} {um sm wp wr ac sz ra rn : Int} {M14 M15 M16 M17 M18 M19 M20 M21 M22 M23 : List Int} (hN : isN w h F um sm wp wr ac sz ra rn M14 M15 M16 M17 M18 M19 M20 M21 M22 M23) (hW : wfF F) : Ci l yX5_rows cX5_rows 1 (some .int) 4 [vr h] w (fun z w' => z = rowsF F ∧ isNs w' h F (scr F) um sm wp wr ac sz ra rn M14 M15 M16 M17 M18 M19 M20 M21 M22 M23 ∧ frR w w' h (h + 23)) := by
  refine Ci.of (ml := [some (vr h)]) kyX5_rows rfl (Nat.le_of_ble_eq_true rfl) rfl ?_
  intro t n C hQ
  have hN2 := hN
  obtain ⟨j1, j2, j3, j4, j5, j6, pi, lr, lc, M7, M8, M9, M10, M11, M12, M13, hr⟩ := hN
  refine x_aload_n C dX5_rows_0 rfl ?_
  refine y_v0 C dX5_rows_1 kyX5_setScreen knX5_setScreen kmX5_150 hr.o (c_X5_setScreen l hN2 hW) (by decide) (Nat.zero_le _) (Nat.zero_le _) (Nat.le_of_ble_eq_true rfl) (fun w1 q1 => ?_)
  obtain ⟨hNs, hf⟩ := q1
  obtain ⟨j1, j2, j3, j4, j5, j6, J7, J8, J9, J10, J11, J12, J13, hr⟩ := id hNs
  have l12 := hr.l12
  simp only [List.length_append, List.length_map] at l12
  refine x_aload_n C dX5_rows_4 rfl ?_
  refine x_get C dX5_rows_5 kfX5_144 hr.o rfl ?_
  refine x_iconst C dX5_rows_8 ⟨by decide, by decide⟩ ?_
  refine x_iadd C dX5_rows_9 (by first | (unfold iR; omega) | exact ⟨by omega, by omega⟩) ?_
  refine x_iret C hQ dX5_rows_10 (Nat.le_refl _) (Nat.le_refl _) ?_
  exact ⟨rfl, _, rfl, by unfold rowsF; omega, hNs, hf⟩

set_option maxHeartbeats 1000000 in
set_option maxRecDepth 100000 in
theorem lp_X5_longest {t : TX} {l : Launch} {n0 : Nat} {w : mW} {h : Nat} {F : mF} {um sm wp wr ac sz ra rn : Int} {M14 M15 M16 M17 M18 M19 M20 M21 M22 M23 : List Int} {S : mScr} {j1 j2 j3 j4 j5 j6 J7 J8 J9 J10 J11 J12 J13 : List Int} (hr : rM w h F.1.1.length F.1.2.1.length F.1.2.2.length F.2.1 F.2.2.1 F.2.2.2.1 F.2.2.2.2 S.1.length ((S.2.length : Int) - 1) (lastC S.2) um sm wp wr ac sz ra rn (F.1.1 ++ j1) (F.1.2.1.map (fun f => f.1) ++ j2) (F.1.2.1.map (fun f => f.2.1) ++ j3) (F.1.2.1.map (fun f => f.2.2) ++ j4) (F.1.2.2.map (fun q => q.1) ++ j5) (F.1.2.2.map (fun q => q.2) ++ j6) (S.1.map (fun q => q.1) ++ J7) (S.1.map (fun q => q.2.1) ++ J8) (S.1.map (fun q => q.2.2.1) ++ J9) (S.1.map (fun q => q.2.2.2.1) ++ J10) (S.1.map (fun q => q.2.2.2.2) ++ J11) (S.2.map (fun q => q.1) ++ J12) (S.2.map (fun q => q.2) ++ J13) M14 M15 M16 M17 M18 M19 M20 M21 M22 M23) (C : Cb t l cX5_longest RX5 3 (some .int) 4 0 0) {Q : Int → mW → Prop} (hQ : RQ t 0 0 (fun r n' w' => n' = n0 ∧ ∃ z : Int, r = some (vi z) ∧ Q z w')) : ∀ (R P : List (Int × Int)) (k z : Int), S.2 = P ++ R → k = P.length → Q (maxE R z) w → J t 0 0 8 [some (vr h), some (vi z), some (vi k)] [] n0 w := by
  intro R
  induction R with
  | nil =>
    intro P k z hP hk hq
    have hl : S.2.length = P.length := by rw [hP]; simp
    refine x_iload_n C dX5_longest_8 rfl ?_
    refine x_aload_n C dX5_longest_9 rfl ?_
    refine x_get C dX5_longest_10 kfX5_144 hr.o rfl ?_
    refine x_icmp_gt (tgt := 43) C dX5_longest_13 (by decide) (fun c13 => ?_) (fun c13 => absurd c13 (by omega))
    refine x_iload_n C dX5_longest_43 rfl ?_
    refine x_iret C hQ dX5_longest_44 (Nat.le_refl _) (Nat.le_refl _) ?_
    exact ⟨rfl, _, rfl, hq⟩
  | cons r R ih =>
    intro P k z hP hk hq
    have hl : S.2.length = P.length + (R.length + 1) := by rw [hP]; simp
    have e12 : (S.2.map (fun q => q.1) ++ J12).getD k.toNat 0 = r.1 := by rw [hP]; exact gmap_at _ P R r J12 hk
    have l12 := hr.l12
    simp only [List.length_append, List.length_map] at l12
    rw [maxE] at hq
    refine x_iload_n C dX5_longest_8 rfl ?_
    refine x_aload_n C dX5_longest_9 rfl ?_
    refine x_get C dX5_longest_10 kfX5_144 hr.o rfl ?_
    refine x_icmp_gt (tgt := 43) C dX5_longest_13 (by decide) (fun c13 => absurd c13 (by omega)) (fun c13 => ?_)
    refine x_aload_n C dX5_longest_16 rfl ?_
    refine x_get C dX5_longest_17 kfX5_53 hr.o rfl ?_
    refine x_iload_n C dX5_longest_20 rfl ?_
    refine x_iald C dX5_longest_21 hr.a12 (by omega) (by rw [hr.l12]; omega) ?_
    rw [e12]
    refine x_iload_n C dX5_longest_22 rfl ?_
    refine x_icmp_le (tgt := 35) C dX5_longest_23 (by decide) (fun c23 => ?_) (fun c23 => ?_)
    · refine x_iload_n C dX5_longest_35 rfl ?_
      refine s_ist3_1 C dX5_longest_36 rfl ?_
      refine s_inc3_2 C dX5_longest_37 rfl (by first | (unfold iR; omega) | exact ⟨by omega, by omega⟩) ?_
      refine x_goto (tgt := 8) C dX5_longest_40 (by decide) ?_
      exact ih (P ++ [r]) (k + 1) _ (by rw [hP]; simp) (by simp; omega) (by rw [if_neg (by omega)] at hq; exact hq)
    · refine x_aload_n C dX5_longest_26 rfl ?_
      refine x_get C dX5_longest_27 kfX5_53 hr.o rfl ?_
      refine x_iload_n C dX5_longest_30 rfl ?_
      refine x_iald C dX5_longest_31 hr.a12 (by omega) (by rw [hr.l12]; omega) ?_
      rw [e12]
      refine x_goto (tgt := 36) C dX5_longest_32 (by decide) ?_
      refine s_ist3_1 C dX5_longest_36 rfl ?_
      refine s_inc3_2 C dX5_longest_37 rfl (by first | (unfold iR; omega) | exact ⟨by omega, by omega⟩) ?_
      refine x_goto (tgt := 8) C dX5_longest_40 (by decide) ?_
      exact ih (P ++ [r]) (k + 1) _ (by rw [hP]; simp) (by simp; omega) (by rw [if_pos (by omega)] at hq; exact hq)

set_option maxHeartbeats 1000000 in
set_option maxRecDepth 100000 in
theorem c_X5_longest (l : Launch) {w : mW} {h : Nat} {F : mF} {um sm wp wr ac sz ra rn : Int} {M14 M15 M16 M17 M18 M19 M20 M21 M22 M23 : List Int} (hN : isN w h F um sm wp wr ac sz ra rn M14 M15 M16 M17 M18 M19 M20 M21 M22 M23) (hW : wfF F) : Ci l yX5_longest cX5_longest 3 (some .int) 4 [vr h] w (fun z w' => z = maxE (scr F).2 0 ∧ isNs w' h F (scr F) um sm wp wr ac sz ra rn M14 M15 M16 M17 M18 M19 M20 M21 M22 M23 ∧ frR w w' h (h + 23)) := by
  refine Ci.of (ml := [some (vr h), none, none]) kyX5_longest rfl (Nat.le_of_ble_eq_true rfl) rfl ?_
  intro t n C hQ
  have hN2 := hN
  obtain ⟨j1, j2, j3, j4, j5, j6, pi, lr, lc, M7, M8, M9, M10, M11, M12, M13, hr⟩ := hN
  refine x_aload_n C dX5_longest_0 rfl ?_
  refine y_v0 C dX5_longest_1 kyX5_setScreen knX5_setScreen kmX5_150 hr.o (c_X5_setScreen l hN2 hW) (by decide) (Nat.zero_le _) (Nat.zero_le _) (Nat.le_of_ble_eq_true rfl) (fun w1 q1 => ?_)
  obtain ⟨hNs, hf⟩ := q1
  obtain ⟨j1, j2, j3, j4, j5, j6, J7, J8, J9, J10, J11, J12, J13, hr⟩ := id hNs
  refine x_iconst C dX5_longest_4 ⟨by decide, by decide⟩ ?_
  refine s_ist3_1 C dX5_longest_5 rfl ?_
  refine x_iconst C dX5_longest_6 ⟨by decide, by decide⟩ ?_
  refine s_ist3_2 C dX5_longest_7 rfl ?_
  exact lp_X5_longest hr C hQ (scr F).2 [] 0 0 rfl rfl ⟨rfl, hNs, hf⟩

set_option maxHeartbeats 1000000 in
set_option maxRecDepth 100000 in
theorem lp_X5_putsIn_1 {t : TX} {l : Launch} {n0 : Nat} {w0 : mW} {h : Nat} {mn fc hc mo wi nd tb pi lr lc um sm wp wr ac sz ra rn : Int} {M2 M3 M4 M5 M6 M7 M8 M9 M10 M11 M12 M13 M14 M15 M16 M17 M18 M19 M20 M21 M22 M23 : List Int} {G : List Int} (a s : Int) (ha : 0 ≤ a) (C : Cb t l cX5_putsIn RX5 4 none 0 0 0)  (kx : ∀ (P R : List Int) (c : Int) (w : mW), P.length = a.toNat → P ++ R = G → rM w h mn fc hc mo wi nd tb pi lr lc um sm wp wr ac sz ra rn (P ++ c :: R) M2 M3 M4 M5 M6 M7 M8 M9 M10 M11 M12 M13 M14 M15 M16 M17 M18 M19 M20 M21 M22 M23 → frR w0 w h (h + 23) → J t 0 0 30 [some (vr h), some (vi a), some (vi s), some (vi a)] [] n0 w) : ∀ (m : Nat) (P R : List Int) (c k : Int) (w : mW), P.length = a.toNat + m → k = P.length → rM w h mn fc hc mo wi nd tb pi lr lc um sm wp wr ac sz ra rn (P ++ c :: R) M2 M3 M4 M5 M6 M7 M8 M9 M10 M11 M12 M13 M14 M15 M16 M17 M18 M19 M20 M21 M22 M23 → frR w0 w h (h + 23) → P ++ R = G → k < 41 → J t 0 0 5 [some (vr h), some (vi a), some (vi s), some (vi k)] [] n0 w := by
  intro m
  induction m with
  | zero =>
    intro P R c k w hm hk hr hf hG hl
    have lA := hr.l1
    simp only [List.length_append, List.length_cons] at lA
    refine x_iload_n C dX5_putsIn_5 rfl ?_
    refine x_iload_n C dX5_putsIn_6 rfl ?_
    refine x_icmp_le (tgt := 30) C dX5_putsIn_7 (by decide) (fun c7 => ?_) (fun c7 => absurd c7 (by omega))
    have ek : k = a := by omega
    rw [ek]
    exact kx P R c w (by omega) hG hr hf
  | succ m ih =>
    intro P R c k w hm hk hr hf hG hl
    have lA := hr.l1
    simp only [List.length_append, List.length_cons] at lA
    obtain ⟨P0, y, rfl, hP0⟩ := snoc P (a.toNat + m) (by omega)
    simp only [List.length_append, List.length_cons, List.length_nil] at hk lA
    have e1 : (P0 ++ [y] ++ c :: R).getD (k - 1).toNat 0 = y := by
      rw [List.append_assoc, List.singleton_append]
      exact gd_mid P0 y (c :: R) (by omega)
    refine x_iload_n C dX5_putsIn_5 rfl ?_
    refine x_iload_n C dX5_putsIn_6 rfl ?_
    refine x_icmp_le (tgt := 30) C dX5_putsIn_7 (by decide) (fun c7 => absurd c7 (by omega)) (fun c7 => ?_)
    refine x_aload_n C dX5_putsIn_10 rfl ?_
    refine x_get C dX5_putsIn_11 kfX5_7 hr.o rfl ?_
    refine x_iload_n C dX5_putsIn_14 rfl ?_
    refine x_aload_n C dX5_putsIn_15 rfl ?_
    refine x_get C dX5_putsIn_16 kfX5_7 hr.o rfl ?_
    refine x_iload_n C dX5_putsIn_19 rfl ?_
    refine x_iconst C dX5_putsIn_20 ⟨by decide, by decide⟩ ?_
    refine x_isub C dX5_putsIn_21 (by first | (unfold iR; omega) | exact ⟨by omega, by omega⟩) ?_
    refine x_iald C dX5_putsIn_22 hr.a1 (by omega) (by rw [hr.l1]; omega) ?_
    rw [e1]
    refine x_iast C dX5_putsIn_23 hr.a1 (by omega) (by rw [hr.l1]; omega) ?_
    refine ab_M_M1 hr hf (by rw [List.length_set]; exact hr.l1) (fun w hr hf => ?_)
    refine s_inc4_3 C dX5_putsIn_24 rfl (by first | (unfold iR; omega) | exact ⟨by omega, by omega⟩) ?_
    refine x_goto (tgt := 5) C dX5_putsIn_27 (by decide) ?_
    refine ih P0 (y :: R) y (k + -1) w hP0 (by omega) ?_ hf (by rw [← hG]; simp) (by omega)
    rw [set_mid (P0 ++ [y]) c y R (by simp; omega)] at hr
    simpa using hr

set_option maxHeartbeats 1000000 in
set_option maxRecDepth 100000 in
theorem lp_X5_putsIn_2 {t : TX} {l : Launch} {n0 : Nat} {w0 : mW} {h : Nat} {mn hc mo wi nd tb pi lr lc um sm wp wr ac sz ra rn : Int} {M1 M5 M6 M7 M8 M9 M10 M11 M12 M13 M14 M15 M16 M17 M18 M19 M20 M21 M22 M23 : List Int} {j2 j3 j4 : List Int} (a s : Int) (C : Cb t l cX5_putsIn RX5 4 none 0 0 0)  : ∀ (R P : List (Int × Int × Int)) (k : Int) (w : mW), rM w h mn (P ++ R).length hc mo wi nd tb pi lr lc um sm wp wr ac sz ra rn M1 ((P ++ R).map (fun f => f.1) ++ j2) ((P ++ R).map (fun f => f.2.1) ++ j3) ((P ++ R).map (fun f => f.2.2) ++ j4) M5 M6 M7 M8 M9 M10 M11 M12 M13 M14 M15 M16 M17 M18 M19 M20 M21 M22 M23 → frR w0 w h (h + 23) → k = P.length → smF R → (∀ (k : Int) (w : mW), rM w h mn (P ++ R.map (upF a)).length hc mo wi nd tb pi lr lc um sm wp wr ac sz ra rn M1 ((P ++ R.map (upF a)).map (fun f => f.1) ++ j2) ((P ++ R.map (upF a)).map (fun f => f.2.1) ++ j3) ((P ++ R.map (upF a)).map (fun f => f.2.2) ++ j4) M5 M6 M7 M8 M9 M10 M11 M12 M13 M14 M15 M16 M17 M18 M19 M20 M21 M22 M23 → frR w0 w h (h + 23) → J t 0 0 111 [some (vr h), some (vi a), some (vi s), some (vi k)] [] n0 w) → J t 0 0 49 [some (vr h), some (vi a), some (vi s), some (vi k)] [] n0 w := by
  intro R
  induction R with
  | nil =>
    intro P k w hr hf hk hb kx
    have hr2 := hr
    have l2 := hr.l2
    have l3 := hr.l3
    have l4 := hr.l4
    simp only [List.length_append, List.length_map, List.length_cons, List.length_nil] at l2 l3 l4
    rw [List.append_nil] at hr
    refine x_iload_n C dX5_putsIn_49 rfl ?_
    refine x_aload_n C dX5_putsIn_50 rfl ?_
    refine x_get C dX5_putsIn_51 kfX5_107 hr.o rfl ?_
    refine x_icmp_ge (tgt := 111) C dX5_putsIn_54 (by decide) (fun c54 => ?_) (fun c54 => absurd c54 (by omega))
    exact kx k w (by simpa using hr) hf
  | cons r R ih =>
    intro P k w hr hf hk hb kx
    have l2 := hr.l2
    have l3 := hr.l3
    have l4 := hr.l4
    simp only [List.length_append, List.length_map, List.length_cons, List.length_nil] at l2 l3 l4
    have hbr := hb r List.mem_cons_self
    have hcl : (P ++ r :: R).length = P.length + (R.length + 1) := by simp
    have e2 : ((P ++ r :: R).map (fun f => f.1) ++ j2).getD k.toNat 0 = r.1 := gmap_at _ P R r j2 hk
    have e3 : ((P ++ r :: R).map (fun f => f.2.1) ++ j3).getD k.toNat 0 = r.2.1 := gmap_at _ P R r j3 hk
    have e4 : ((P ++ r :: R).map (fun f => f.2.2) ++ j4).getD k.toNat 0 = r.2.2 := gmap_at _ P R r j4 hk
    refine x_iload_n C dX5_putsIn_49 rfl ?_
    refine x_aload_n C dX5_putsIn_50 rfl ?_
    refine x_get C dX5_putsIn_51 kfX5_107 hr.o rfl ?_
    refine x_icmp_ge (tgt := 111) C dX5_putsIn_54 (by decide) (fun c54 => absurd c54 (by omega)) (fun c54 => ?_)
    refine x_aload_n C dX5_putsIn_57 rfl ?_
    refine x_get C dX5_putsIn_58 kfX5_16 hr.o rfl ?_
    refine x_iload_n C dX5_putsIn_61 rfl ?_
    refine x_dup2 C dX5_putsIn_62 rfl rfl ?_
    refine x_iald C dX5_putsIn_63 hr.a3 (by omega) (by rw [hr.l3]; omega) ?_
    rw [e3]
    refine x_iload_n C dX5_putsIn_64 rfl ?_
    refine x_aload_n C dX5_putsIn_65 rfl ?_
    refine x_get C dX5_putsIn_66 kfX5_16 hr.o rfl ?_
    refine x_iload_n C dX5_putsIn_69 rfl ?_
    refine x_iald C dX5_putsIn_70 hr.a3 (by omega) (by rw [hr.l3]; omega) ?_
    rw [e3]
    refine x_icmp_ge (tgt := 78) C dX5_putsIn_71 (by decide) (fun c71 => ?_) (fun c71 => ?_)
    · refine x_iconst C dX5_putsIn_78 ⟨by decide, by decide⟩ ?_
      refine x_iadd C dX5_putsIn_79 (by first | (unfold iR; omega) | exact ⟨by omega, by omega⟩) ?_
      refine x_iast C dX5_putsIn_80 hr.a3 (by omega) (by rw [hr.l3]; omega) ?_
      refine ab_M_M3 hr hf (by rw [List.length_set]; exact hr.l3) (fun w hr hf => ?_)
      refine x_aload_n C dX5_putsIn_81 rfl ?_
      refine x_get C dX5_putsIn_82 kfX5_13 hr.o rfl ?_
      refine x_iload_n C dX5_putsIn_85 rfl ?_
      refine x_dup2 C dX5_putsIn_86 rfl rfl ?_
      refine x_iald C dX5_putsIn_87 hr.a2 (by omega) (by rw [hr.l2]; omega) ?_
      rw [e2]
      refine x_iload_n C dX5_putsIn_88 rfl ?_
      refine x_aload_n C dX5_putsIn_89 rfl ?_
      refine x_get C dX5_putsIn_90 kfX5_13 hr.o rfl ?_
      refine x_iload_n C dX5_putsIn_93 rfl ?_
      refine x_iald C dX5_putsIn_94 hr.a2 (by omega) (by rw [hr.l2]; omega) ?_
      rw [e2]
      refine x_icmp_gt (tgt := 102) C dX5_putsIn_95 (by decide) (fun c95 => ?_) (fun c95 => ?_)
      · refine x_iconst C dX5_putsIn_102 ⟨by decide, by decide⟩ ?_
        refine x_iadd C dX5_putsIn_103 (by first | (unfold iR; omega) | exact ⟨by omega, by omega⟩) ?_
        refine x_iast C dX5_putsIn_104 hr.a2 (by omega) (by rw [hr.l2]; omega) ?_
        refine ab_M_M2 hr hf (by rw [List.length_set]; exact hr.l2) (fun w hr hf => ?_)
        refine s_inc4_3 C dX5_putsIn_105 rfl (by first | (unfold iR; omega) | exact ⟨by omega, by omega⟩) ?_
        refine x_goto (tgt := 49) C dX5_putsIn_108 (by decide) ?_
        have eu : upF a r = (r.1 + 0, r.2.1 + 0, r.2.2) := by
          unfold upF
          rw [if_neg (by omega), if_neg (by omega)]
          all_goals simp
        rw [mset_at _ P R r j3 _ (by omega)] at hr
        rw [mset_at _ P R r j2 _ (by omega)] at hr
        refine ih (P ++ [upF a r]) (k + 1) w ?_ hf (by simp; omega) (fun q hq => hb q (List.mem_cons_of_mem _ hq)) (fun k9 w9 h8 h9 => kx k9 w9 (by simpa using h8) h9)
        rw [eu]
        simpa using hr
      · refine x_iconst C dX5_putsIn_98 ⟨by decide, by decide⟩ ?_
        refine x_goto (tgt := 103) C dX5_putsIn_99 (by decide) ?_
        refine x_iadd C dX5_putsIn_103 (by first | (unfold iR; omega) | exact ⟨by omega, by omega⟩) ?_
        refine x_iast C dX5_putsIn_104 hr.a2 (by omega) (by rw [hr.l2]; omega) ?_
        refine ab_M_M2 hr hf (by rw [List.length_set]; exact hr.l2) (fun w hr hf => ?_)
        refine s_inc4_3 C dX5_putsIn_105 rfl (by first | (unfold iR; omega) | exact ⟨by omega, by omega⟩) ?_
        refine x_goto (tgt := 49) C dX5_putsIn_108 (by decide) ?_
        have eu : upF a r = (r.1 + 1, r.2.1 + 0, r.2.2) := by
          unfold upF
          rw [if_pos (by omega), if_neg (by omega)]
          all_goals simp
        rw [mset_at _ P R r j3 _ (by omega)] at hr
        rw [mset_at _ P R r j2 _ (by omega)] at hr
        refine ih (P ++ [upF a r]) (k + 1) w ?_ hf (by simp; omega) (fun q hq => hb q (List.mem_cons_of_mem _ hq)) (fun k9 w9 h8 h9 => kx k9 w9 (by simpa using h8) h9)
        rw [eu]
        simpa using hr
    · refine x_iconst C dX5_putsIn_74 ⟨by decide, by decide⟩ ?_
      refine x_goto (tgt := 79) C dX5_putsIn_75 (by decide) ?_
      refine x_iadd C dX5_putsIn_79 (by first | (unfold iR; omega) | exact ⟨by omega, by omega⟩) ?_
      refine x_iast C dX5_putsIn_80 hr.a3 (by omega) (by rw [hr.l3]; omega) ?_
      refine ab_M_M3 hr hf (by rw [List.length_set]; exact hr.l3) (fun w hr hf => ?_)
      refine x_aload_n C dX5_putsIn_81 rfl ?_
      refine x_get C dX5_putsIn_82 kfX5_13 hr.o rfl ?_
      refine x_iload_n C dX5_putsIn_85 rfl ?_
      refine x_dup2 C dX5_putsIn_86 rfl rfl ?_
      refine x_iald C dX5_putsIn_87 hr.a2 (by omega) (by rw [hr.l2]; omega) ?_
      rw [e2]
      refine x_iload_n C dX5_putsIn_88 rfl ?_
      refine x_aload_n C dX5_putsIn_89 rfl ?_
      refine x_get C dX5_putsIn_90 kfX5_13 hr.o rfl ?_
      refine x_iload_n C dX5_putsIn_93 rfl ?_
      refine x_iald C dX5_putsIn_94 hr.a2 (by omega) (by rw [hr.l2]; omega) ?_
      rw [e2]
      refine x_icmp_gt (tgt := 102) C dX5_putsIn_95 (by decide) (fun c95 => ?_) (fun c95 => ?_)
      · refine x_iconst C dX5_putsIn_102 ⟨by decide, by decide⟩ ?_
        refine x_iadd C dX5_putsIn_103 (by first | (unfold iR; omega) | exact ⟨by omega, by omega⟩) ?_
        refine x_iast C dX5_putsIn_104 hr.a2 (by omega) (by rw [hr.l2]; omega) ?_
        refine ab_M_M2 hr hf (by rw [List.length_set]; exact hr.l2) (fun w hr hf => ?_)
        refine s_inc4_3 C dX5_putsIn_105 rfl (by first | (unfold iR; omega) | exact ⟨by omega, by omega⟩) ?_
        refine x_goto (tgt := 49) C dX5_putsIn_108 (by decide) ?_
        have eu : upF a r = (r.1 + 0, r.2.1 + 1, r.2.2) := by
          unfold upF
          rw [if_neg (by omega), if_pos (by omega)]
          all_goals simp
        rw [mset_at _ P R r j3 _ (by omega)] at hr
        rw [mset_at _ P R r j2 _ (by omega)] at hr
        refine ih (P ++ [upF a r]) (k + 1) w ?_ hf (by simp; omega) (fun q hq => hb q (List.mem_cons_of_mem _ hq)) (fun k9 w9 h8 h9 => kx k9 w9 (by simpa using h8) h9)
        rw [eu]
        simpa using hr
      · refine x_iconst C dX5_putsIn_98 ⟨by decide, by decide⟩ ?_
        refine x_goto (tgt := 103) C dX5_putsIn_99 (by decide) ?_
        refine x_iadd C dX5_putsIn_103 (by first | (unfold iR; omega) | exact ⟨by omega, by omega⟩) ?_
        refine x_iast C dX5_putsIn_104 hr.a2 (by omega) (by rw [hr.l2]; omega) ?_
        refine ab_M_M2 hr hf (by rw [List.length_set]; exact hr.l2) (fun w hr hf => ?_)
        refine s_inc4_3 C dX5_putsIn_105 rfl (by first | (unfold iR; omega) | exact ⟨by omega, by omega⟩) ?_
        refine x_goto (tgt := 49) C dX5_putsIn_108 (by decide) ?_
        have eu : upF a r = (r.1 + 1, r.2.1 + 1, r.2.2) := by
          unfold upF
          rw [if_pos (by omega), if_pos (by omega)]
          all_goals simp
        rw [mset_at _ P R r j3 _ (by omega)] at hr
        rw [mset_at _ P R r j2 _ (by omega)] at hr
        refine ih (P ++ [upF a r]) (k + 1) w ?_ hf (by simp; omega) (fun q hq => hb q (List.mem_cons_of_mem _ hq)) (fun k9 w9 h8 h9 => kx k9 w9 (by simpa using h8) h9)
        rw [eu]
        simpa using hr

set_option maxHeartbeats 1000000 in
set_option maxRecDepth 100000 in
theorem lp_X5_putsIn_3 {t : TX} {l : Launch} {n0 : Nat} {w0 : mW} {h : Nat} {mn fc mo wi nd tb pi lr lc um sm wp wr ac sz ra rn : Int} {M1 M2 M3 M4 M7 M8 M9 M10 M11 M12 M13 M14 M15 M16 M17 M18 M19 M20 M21 M22 M23 : List Int} {j5 j6 : List Int} (a s : Int) (C : Cb t l cX5_putsIn RX5 4 none 0 0 0)  : ∀ (R P : List (Int × Int)) (k : Int) (w : mW), rM w h mn fc (P ++ R).length mo wi nd tb pi lr lc um sm wp wr ac sz ra rn M1 M2 M3 M4 ((P ++ R).map (fun f => f.1) ++ j5) ((P ++ R).map (fun f => f.2) ++ j6) M7 M8 M9 M10 M11 M12 M13 M14 M15 M16 M17 M18 M19 M20 M21 M22 M23 → frR w0 w h (h + 23) → k = P.length → smH R → (∀ (k : Int) (w : mW), rM w h mn fc (P ++ R.map (upH a)).length mo wi nd tb pi lr lc um sm wp wr ac sz ra rn M1 M2 M3 M4 ((P ++ R.map (upH a)).map (fun f => f.1) ++ j5) ((P ++ R.map (upH a)).map (fun f => f.2) ++ j6) M7 M8 M9 M10 M11 M12 M13 M14 M15 M16 M17 M18 M19 M20 M21 M22 M23 → frR w0 w h (h + 23) → J t 0 0 151 [some (vr h), some (vi a), some (vi s), some (vi k)] [] n0 w) → J t 0 0 113 [some (vr h), some (vi a), some (vi s), some (vi k)] [] n0 w := by
  intro R
  induction R with
  | nil =>
    intro P k w hr hf hk hb kx
    have hr2 := hr
    have l5 := hr.l5
    have l6 := hr.l6
    simp only [List.length_append, List.length_map, List.length_cons, List.length_nil] at l5 l6
    rw [List.append_nil] at hr
    refine x_iload_n C dX5_putsIn_113 rfl ?_
    refine x_aload_n C dX5_putsIn_114 rfl ?_
    refine x_get C dX5_putsIn_115 kfX5_110 hr.o rfl ?_
    refine x_icmp_ge (tgt := 151) C dX5_putsIn_118 (by decide) (fun c118 => ?_) (fun c118 => absurd c118 (by omega))
    exact kx k w (by simpa using hr) hf
  | cons r R ih =>
    intro P k w hr hf hk hb kx
    have l5 := hr.l5
    have l6 := hr.l6
    simp only [List.length_append, List.length_map, List.length_cons, List.length_nil] at l5 l6
    have hbr := hb r List.mem_cons_self
    have hcl : (P ++ r :: R).length = P.length + (R.length + 1) := by simp
    have e5 : ((P ++ r :: R).map (fun f => f.1) ++ j5).getD k.toNat 0 = r.1 := gmap_at _ P R r j5 hk
    have e6 : ((P ++ r :: R).map (fun f => f.2) ++ j6).getD k.toNat 0 = r.2 := gmap_at _ P R r j6 hk
    refine x_iload_n C dX5_putsIn_113 rfl ?_
    refine x_aload_n C dX5_putsIn_114 rfl ?_
    refine x_get C dX5_putsIn_115 kfX5_110 hr.o rfl ?_
    refine x_icmp_ge (tgt := 151) C dX5_putsIn_118 (by decide) (fun c118 => absurd c118 (by omega)) (fun c118 => ?_)
    refine x_aload_n C dX5_putsIn_121 rfl ?_
    refine x_get C dX5_putsIn_122 kfX5_22 hr.o rfl ?_
    refine x_iload_n C dX5_putsIn_125 rfl ?_
    refine x_dup2 C dX5_putsIn_126 rfl rfl ?_
    refine x_iald C dX5_putsIn_127 hr.a5 (by omega) (by rw [hr.l5]; omega) ?_
    rw [e5]
    refine x_iload_n C dX5_putsIn_128 rfl ?_
    refine x_aload_n C dX5_putsIn_129 rfl ?_
    refine x_get C dX5_putsIn_130 kfX5_22 hr.o rfl ?_
    refine x_iload_n C dX5_putsIn_133 rfl ?_
    refine x_iald C dX5_putsIn_134 hr.a5 (by omega) (by rw [hr.l5]; omega) ?_
    rw [e5]
    refine x_icmp_gt (tgt := 142) C dX5_putsIn_135 (by decide) (fun c135 => ?_) (fun c135 => ?_)
    · refine x_iconst C dX5_putsIn_142 ⟨by decide, by decide⟩ ?_
      refine x_iadd C dX5_putsIn_143 (by first | (unfold iR; omega) | exact ⟨by omega, by omega⟩) ?_
      refine x_iast C dX5_putsIn_144 hr.a5 (by omega) (by rw [hr.l5]; omega) ?_
      refine ab_M_M5 hr hf (by rw [List.length_set]; exact hr.l5) (fun w hr hf => ?_)
      refine s_inc4_3 C dX5_putsIn_145 rfl (by first | (unfold iR; omega) | exact ⟨by omega, by omega⟩) ?_
      refine x_goto (tgt := 113) C dX5_putsIn_148 (by decide) ?_
      have eu : upH a r = (r.1 + 0, r.2) := by
        unfold upH
        rw [if_neg (by omega)]
        all_goals simp
      rw [mset_at _ P R r j5 _ (by omega)] at hr
      refine ih (P ++ [upH a r]) (k + 1) w ?_ hf (by simp; omega) (fun q hq => hb q (List.mem_cons_of_mem _ hq)) (fun k9 w9 h8 h9 => kx k9 w9 (by simpa using h8) h9)
      rw [eu]
      simpa using hr
    · refine x_iconst C dX5_putsIn_138 ⟨by decide, by decide⟩ ?_
      refine x_goto (tgt := 143) C dX5_putsIn_139 (by decide) ?_
      refine x_iadd C dX5_putsIn_143 (by first | (unfold iR; omega) | exact ⟨by omega, by omega⟩) ?_
      refine x_iast C dX5_putsIn_144 hr.a5 (by omega) (by rw [hr.l5]; omega) ?_
      refine ab_M_M5 hr hf (by rw [List.length_set]; exact hr.l5) (fun w hr hf => ?_)
      refine s_inc4_3 C dX5_putsIn_145 rfl (by first | (unfold iR; omega) | exact ⟨by omega, by omega⟩) ?_
      refine x_goto (tgt := 113) C dX5_putsIn_148 (by decide) ?_
      have eu : upH a r = (r.1 + 1, r.2) := by
        unfold upH
        rw [if_pos (by omega)]
        all_goals simp
      rw [mset_at _ P R r j5 _ (by omega)] at hr
      refine ih (P ++ [upH a r]) (k + 1) w ?_ hf (by simp; omega) (fun q hq => hb q (List.mem_cons_of_mem _ hq)) (fun k9 w9 h8 h9 => kx k9 w9 (by simpa using h8) h9)
      rw [eu]
      simpa using hr

set_option maxHeartbeats 1000000 in
set_option maxRecDepth 100000 in
theorem c_X5_putsIn (l : Launch) {w : mW} {h : Nat} {F : mF} {um sm wp wr ac sz ra rn : Int} {M14 M15 M16 M17 M18 M19 M20 M21 M22 M23 : List Int} (hN : isN w h F um sm wp wr ac sz ra rn M14 M15 M16 M17 M18 M19 M20 M21 M22 M23) (a s : Int) (hF : smF F.1.2.1) (hH : smH F.1.2.2) (ha : (0 ≤ a ∧ a ≤ F.1.1.length) ∧ F.1.1.length < 40) : Cv l yX5_putsIn cX5_putsIn 4 0 [vr h, vi a, vi s] w (fun w' => isN w' h (putF F a s) um sm wp wr ac sz ra rn M14 M15 M16 M17 M18 M19 M20 M21 M22 M23 ∧ frR w w' h (h + 23)) := by
  refine Cv.of (ml := [some (vr h), some (vi a), some (vi s), none]) kyX5_putsIn rfl (Nat.le_of_ble_eq_true rfl) rfl ?_
  intro t n C hQ
  have hf : frR w w h (h + 23) := frR.rf
  obtain ⟨j1, j2, j3, j4, j5, j6, pi, lr, lc, M7, M8, M9, M10, M11, M12, M13, hr⟩ := hN
  obtain ⟨⟨sg, fo, hi⟩, mo, wi, nd, tb⟩ := F
  simp only at hr ha hF hH ⊢
  have l1 := hr.l1
  simp only [List.length_append] at l1
  refine x_aload_n C dX5_putsIn_0 rfl ?_
  refine x_get C dX5_putsIn_1 kfX5_89 hr.o rfl ?_
  refine s_ist4_3 C dX5_putsIn_4 rfl ?_
  obtain ⟨c, J1, rfl⟩ : ∃ u v, j1 = u :: v := List.exists_cons_of_length_pos (by omega)
  refine lp_X5_putsIn_1 (G := sg ++ J1) a s (by omega) C (fun P R c w hP hG hr hf => ?_) (sg.length - a.toNat) sg J1 c sg.length w (by omega) rfl hr hf rfl (by omega)
  have lA := hr.l1
  simp only [List.length_append, List.length_cons] at lA
  refine x_aload_n C dX5_putsIn_30 rfl ?_
  refine x_get C dX5_putsIn_31 kfX5_7 hr.o rfl ?_
  refine x_iload_n C dX5_putsIn_34 rfl ?_
  refine x_iload_n C dX5_putsIn_35 rfl ?_
  refine x_iast C dX5_putsIn_36 hr.a1 (by omega) (by rw [hr.l1]; omega) ?_
  refine ab_M_M1 hr hf (by rw [List.length_set]; exact hr.l1) (fun w hr hf => ?_)
  refine x_aload_n C dX5_putsIn_37 rfl ?_
  refine x_dup C dX5_putsIn_38 rfl ?_
  refine x_get C dX5_putsIn_39 kfX5_89 hr.o rfl ?_
  refine x_iconst C dX5_putsIn_42 ⟨by decide, by decide⟩ ?_
  refine x_iadd C dX5_putsIn_43 (by first | (unfold iR; omega) | exact ⟨by omega, by omega⟩) ?_
  refine x_put C dX5_putsIn_44 kfX5_89 kw_5_0 rfl rfl hr.o (Nat.le_of_ble_eq_true rfl) ?_
  refine ab_M_mn hr hf (fun w hr hf => ?_)
  refine x_iconst C dX5_putsIn_47 ⟨by decide, by decide⟩ ?_
  refine s_ist4_3 C dX5_putsIn_48 rfl ?_
  have hPt : P = sg.take a.toNat := by
    have h9 := congrArg (List.take a.toNat) hG
    rw [List.take_append_of_le_length (by omega), List.take_append_of_le_length (by omega), List.take_of_length_le (by omega)] at h9
    exact h9
  have hRt : R = sg.drop a.toNat ++ J1 := by
    have h9 := congrArg (List.drop a.toNat) hG
    rw [List.drop_append_of_le_length (by omega), List.drop_append_of_le_length (by omega), List.drop_of_length_le (by omega)] at h9
    simpa using h9
  rw [set_mid P c s R (by omega)] at hr
  have e9 : ((insI sg a s).length : Int) = sg.length + 1 := by
    unfold insI
    simp only [List.length_append, List.length_cons, List.length_take, List.length_drop]
    omega
  have e8 : P ++ s :: R = insI sg a s ++ J1 := by
    rw [hPt, hRt]; unfold insI; simp
  rw [e8, ← e9] at hr
  refine lp_X5_putsIn_2 a s C fo [] 0 w hr hf rfl hF (fun k w hr hf => ?_)
  rw [List.nil_append] at hr
  refine x_iconst C dX5_putsIn_111 ⟨by decide, by decide⟩ ?_
  refine s_ist4_3 C dX5_putsIn_112 rfl ?_
  refine lp_X5_putsIn_3 a s C hi [] 0 w hr hf rfl hH (fun k w hr hf => ?_)
  rw [List.nil_append] at hr
  refine x_vret C hQ dX5_putsIn_151 (Nat.le_refl _) (Nat.le_refl _) ?_
  refine ⟨rfl, rfl, ?_, hf⟩
  have e7 : putF ((sg, fo, hi), mo, wi, nd, tb) a s = ((insI sg a s, fo.map (upF a), hi.map (upH a)), mo, wi, nd, tb) := by
    unfold putF putS
    rw [if_pos ha]
  rw [e7]
  exact ⟨J1, j2, j3, j4, j5, j6, pi, lr, lc, M7, M8, M9, M10, M11, M12, M13, hr⟩

set_option maxHeartbeats 1000000 in
set_option maxRecDepth 100000 in
theorem lp_X5_takesOut_1 {t : TX} {l : Launch} {n0 : Nat} {w0 : mW} {h : Nat} {mn fc hc mo wi nd tb pi lr lc um sm wp wr ac sz ra rn : Int} {M2 M3 M4 M5 M6 M7 M8 M9 M10 M11 M12 M13 M14 M15 M16 M17 M18 M19 M20 M21 M22 M23 : List Int} {G J1 : List Int} (a : Int) (C : Cb t l cX5_takesOut RX5 3 none 1 0 0)  (kx : ∀ (P : List Int) (c k : Int) (w : mW), P = G → rM w h mn fc hc mo wi nd tb pi lr lc um sm wp wr ac sz ra rn (P ++ c :: J1) M2 M3 M4 M5 M6 M7 M8 M9 M10 M11 M12 M13 M14 M15 M16 M17 M18 M19 M20 M21 M22 M23 → frR w0 w h (h + 23) → J t 0 0 40 [some (vr h), some (vi a), some (vi k)] [] n0 w) : ∀ (R P : List Int) (c k : Int) (w : mW), k = P.length → rM w h mn fc hc mo wi nd tb pi lr lc um sm wp wr ac sz ra rn (P ++ c :: (R ++ J1)) M2 M3 M4 M5 M6 M7 M8 M9 M10 M11 M12 M13 M14 M15 M16 M17 M18 M19 M20 M21 M22 M23 → frR w0 w h (h + 23) → P ++ R = G → mn = P.length + R.length → J t 0 0 12 [some (vr h), some (vi a), some (vi k)] [] n0 w := by
  intro R
  induction R with
  | nil =>
    intro P c k w hk hr hf hG hn
    simp only [List.length_nil] at hn
    refine x_iload_n C dX5_takesOut_12 rfl ?_
    refine x_aload_n C dX5_takesOut_13 rfl ?_
    refine x_get C dX5_takesOut_14 kfX5_89 hr.o rfl ?_
    refine x_icmp_ge (tgt := 40) C dX5_takesOut_17 (by decide) (fun c17 => ?_) (fun c17 => absurd c17 (by omega))
    exact kx P c k w (by simpa using hG) (by simpa using hr) hf
  | cons y R ih =>
    intro P c k w hk hr hf hG hn
    have lA := hr.l1
    simp only [List.length_append, List.length_cons] at lA hn
    have e1 : (P ++ c :: (y :: R ++ J1)).getD (k + 1).toNat 0 = y := by
      have h9 := gd_mid (P ++ [c]) y (R ++ J1) (i := (k + 1).toNat) (by simp; omega)
      simpa using h9
    refine x_iload_n C dX5_takesOut_12 rfl ?_
    refine x_aload_n C dX5_takesOut_13 rfl ?_
    refine x_get C dX5_takesOut_14 kfX5_89 hr.o rfl ?_
    refine x_icmp_ge (tgt := 40) C dX5_takesOut_17 (by decide) (fun c17 => absurd c17 (by omega)) (fun c17 => ?_)
    refine x_aload_n C dX5_takesOut_20 rfl ?_
    refine x_get C dX5_takesOut_21 kfX5_7 hr.o rfl ?_
    refine x_iload_n C dX5_takesOut_24 rfl ?_
    refine x_aload_n C dX5_takesOut_25 rfl ?_
    refine x_get C dX5_takesOut_26 kfX5_7 hr.o rfl ?_
    refine x_iload_n C dX5_takesOut_29 rfl ?_
    refine x_iconst C dX5_takesOut_30 ⟨by decide, by decide⟩ ?_
    refine x_iadd C dX5_takesOut_31 (by first | (unfold iR; omega) | exact ⟨by omega, by omega⟩) ?_
    refine x_iald C dX5_takesOut_32 hr.a1 (by omega) (by rw [hr.l1]; omega) ?_
    rw [e1]
    refine x_iast C dX5_takesOut_33 hr.a1 (by omega) (by rw [hr.l1]; omega) ?_
    refine ab_M_M1 hr hf (by rw [List.length_set]; exact hr.l1) (fun w hr hf => ?_)
    refine s_inc3_2 C dX5_takesOut_34 rfl (by first | (unfold iR; omega) | exact ⟨by omega, by omega⟩) ?_
    refine x_goto (tgt := 12) C dX5_takesOut_37 (by decide) ?_
    refine ih (P ++ [y]) y (k + 1) w (by simp; omega) ?_ hf (by rw [← hG]; simp) (by simp; omega)
    rw [set_mid P c y (y :: R ++ J1) (by omega)] at hr
    simpa using hr

set_option maxHeartbeats 1000000 in
set_option maxRecDepth 100000 in
theorem lp_X5_takesOut_2 {t : TX} {l : Launch} {n0 : Nat} {w0 : mW} {h : Nat} {sg : List Int} {hi : List (Int × Int)} {j1 j5 j6 : List Int} {mo wi nd tb pi lr lc um sm wp wr ac sz ra rn : Int} {M7 M8 M9 M10 M11 M12 M13 M14 M15 M16 M17 M18 M19 M20 M21 M22 M23 : List Int} (a : Int) (C : Cb t l cX5_takesOut RX5 3 none 1 0 0)  : ∀ (m : Nat) (P R : List (Int × Int × Int)) (k : Int) (j2 j3 j4 : List Int) (w : mW), P.length = m → k = (P.length : Int) - 1 → rM w h sg.length (P ++ R).length hi.length mo wi nd tb pi lr lc um sm wp wr ac sz ra rn (sg ++ j1) ((P ++ R).map (fun f => f.1) ++ j2) ((P ++ R).map (fun f => f.2.1) ++ j3) ((P ++ R).map (fun f => f.2.2) ++ j4) (hi.map (fun q => q.1) ++ j5) (hi.map (fun q => q.2) ++ j6) M7 M8 M9 M10 M11 M12 M13 M14 M15 M16 M17 M18 M19 M20 M21 M22 M23 → frR w0 w h (h + 23) → (∀ q ∈ P, (0 ≤ q.1 ∧ q.1 < q.2.1) ∧ q.2.1 ≤ 1000) → (∀ (j2 j3 j4 : List Int) (w' : mW), rM w' h sg.length ((P.map (dnF a)).filter okF ++ R).length hi.length mo wi nd tb pi lr lc um sm wp wr ac sz ra rn (sg ++ j1) (((P.map (dnF a)).filter okF ++ R).map (fun f => f.1) ++ j2) (((P.map (dnF a)).filter okF ++ R).map (fun f => f.2.1) ++ j3) (((P.map (dnF a)).filter okF ++ R).map (fun f => f.2.2) ++ j4) (hi.map (fun q => q.1) ++ j5) (hi.map (fun q => q.2) ++ j6) M7 M8 M9 M10 M11 M12 M13 M14 M15 M16 M17 M18 M19 M20 M21 M22 M23 → frR w0 w' h (h + 23) → ∀ k : Int, J t 0 0 125 [some (vr h), some (vi a), some (vi k)] [] n0 w') → J t 0 0 47 [some (vr h), some (vi a), some (vi k)] [] n0 w := by
  intro m
  induction m with
  | zero =>
    intro P R k j2 j3 j4 w hm hk hr hf hb hfin
    have hP : P = [] := List.eq_nil_of_length_eq_zero hm
    subst hP
    simp only [List.length_nil] at hk
    refine x_iload_n C dX5_takesOut_47 rfl ?_
    refine x_if_lt (tgt := 125) C dX5_takesOut_48 (by decide) (fun c48 => ?_) (fun c48 => absurd c48 (by omega))
    exact hfin _ _ _ w (by simpa using hr) hf k
  | succ m ih =>
    intro P R k j2 j3 j4 w hm hk hr hf hb hfin
    obtain ⟨P0, r, rfl, hP0⟩ := snoc P m hm
    simp only [List.length_append, List.length_cons, List.length_nil] at hk
    have hbr := hb r (by simp)
    have l2 := hr.l2
    simp only [List.length_append, List.length_map, List.length_cons, List.length_nil] at l2
    have e2 := gmid1 (fun f : Int × Int × Int => f.1) P0 R r j2 (k := k) (by omega)
    have e3 := gmid1 (fun f : Int × Int × Int => f.2.1) P0 R r j3 (k := k) (by omega)
    refine x_iload_n C dX5_takesOut_47 rfl ?_
    refine x_if_lt (tgt := 125) C dX5_takesOut_48 (by decide) (fun c48 => absurd c48 (by omega)) (fun c48 => ?_)
    refine x_aload_n C dX5_takesOut_51 rfl ?_
    refine x_get C dX5_takesOut_52 kfX5_16 hr.o rfl ?_
    refine x_iload_n C dX5_takesOut_55 rfl ?_
    refine x_dup2 C dX5_takesOut_56 rfl rfl ?_
    refine x_iald C dX5_takesOut_57 hr.a3 (by omega) (by rw [hr.l3]; omega) ?_
    rw [e3]
    refine x_iload_n C dX5_takesOut_58 rfl ?_
    refine x_aload_n C dX5_takesOut_59 rfl ?_
    refine x_get C dX5_takesOut_60 kfX5_16 hr.o rfl ?_
    refine x_iload_n C dX5_takesOut_63 rfl ?_
    refine x_iald C dX5_takesOut_64 hr.a3 (by omega) (by rw [hr.l3]; omega) ?_
    rw [e3]
    refine x_icmp_ge (tgt := 72) C dX5_takesOut_65 (by decide) (fun c65 => ?_) (fun c65 => ?_)
    · refine x_iconst C dX5_takesOut_72 ⟨by decide, by decide⟩ ?_
      refine x_isub C dX5_takesOut_73 (by first | (unfold iR; omega) | exact ⟨by omega, by omega⟩) ?_
      refine x_iast C dX5_takesOut_74 hr.a3 (by omega) (by rw [hr.l3]; omega) ?_
      refine ab_M_M3 hr hf (by rw [List.length_set]; exact hr.l3) (fun w hr hf => ?_)
      refine x_aload_n C dX5_takesOut_75 rfl ?_
      refine x_get C dX5_takesOut_76 kfX5_13 hr.o rfl ?_
      refine x_iload_n C dX5_takesOut_79 rfl ?_
      refine x_dup2 C dX5_takesOut_80 rfl rfl ?_
      refine x_iald C dX5_takesOut_81 hr.a2 (by omega) (by rw [hr.l2]; omega) ?_
      rw [e2]
      refine x_iload_n C dX5_takesOut_82 rfl ?_
      refine x_aload_n C dX5_takesOut_83 rfl ?_
      refine x_get C dX5_takesOut_84 kfX5_13 hr.o rfl ?_
      refine x_iload_n C dX5_takesOut_87 rfl ?_
      refine x_iald C dX5_takesOut_88 hr.a2 (by omega) (by rw [hr.l2]; omega) ?_
      rw [e2]
      refine x_icmp_ge (tgt := 96) C dX5_takesOut_89 (by decide) (fun c89 => ?_) (fun c89 => ?_)
      · refine x_iconst C dX5_takesOut_96 ⟨by decide, by decide⟩ ?_
        refine x_isub C dX5_takesOut_97 (by first | (unfold iR; omega) | exact ⟨by omega, by omega⟩) ?_
        refine x_iast C dX5_takesOut_98 hr.a2 (by omega) (by rw [hr.l2]; omega) ?_
        refine ab_M_M2 hr hf (by rw [List.length_set]; exact hr.l2) (fun w hr hf => ?_)
        have ed : dnF a r = (r.1 - 0, r.2.1 - 0, r.2.2) := by
          unfold dnF
          rw [if_neg (by omega), if_neg (by omega)]
          all_goals simp
        rw [smid1 _ P0 R r j3 _ (by omega), smid1 _ P0 R r j2 _ (by omega)] at hr
        have hr : rM w h sg.length (P0 ++ dnF a r :: R).length hi.length mo wi nd tb pi lr lc um sm wp wr ac sz ra rn (sg ++ j1) ((P0 ++ dnF a r :: R).map (fun f => f.1) ++ j2) ((P0 ++ dnF a r :: R).map (fun f => f.2.1) ++ j3) ((P0 ++ dnF a r :: R).map (fun f => f.2.2) ++ j4) (hi.map (fun q => q.1) ++ j5) (hi.map (fun q => q.2) ++ j6) M7 M8 M9 M10 M11 M12 M13 M14 M15 M16 M17 M18 M19 M20 M21 M22 M23 := by
          rw [ed]
          simpa using hr
        have e2 := gmap_at (fun f : Int × Int × Int => f.1) P0 R (dnF a r) j2 (k := k) (by omega)
        have e3 := gmap_at (fun f : Int × Int × Int => f.2.1) P0 R (dnF a r) j3 (k := k) (by omega)
        have hdl : (dnF a r).1 ≤ (dnF a r).2.1 := by
          rw [ed]; simp only; omega
        refine x_aload_n C dX5_takesOut_99 rfl ?_
        refine x_get C dX5_takesOut_100 kfX5_13 hr.o rfl ?_
        refine x_iload_n C dX5_takesOut_103 rfl ?_
        refine x_iald C dX5_takesOut_104 hr.a2 (by omega) (by rw [hr.l2]; omega) ?_
        rw [e2]
        refine x_aload_n C dX5_takesOut_105 rfl ?_
        refine x_get C dX5_takesOut_106 kfX5_16 hr.o rfl ?_
        refine x_iload_n C dX5_takesOut_109 rfl ?_
        refine x_iald C dX5_takesOut_110 hr.a3 (by omega) (by rw [hr.l3]; omega) ?_
        rw [e3]
        refine x_icmp_ne (tgt := 119) C dX5_takesOut_111 (by decide) (fun c111 => ?_) (fun c111 => ?_)
        · refine s_inc3_2 C dX5_takesOut_119 rfl (by first | (unfold iR; omega) | exact ⟨by omega, by omega⟩) ?_
          refine x_goto (tgt := 47) C dX5_takesOut_122 (by decide) ?_
          refine ih P0 (dnF a r :: R) (k + -1) j2 j3 j4 _ hP0 (by omega) hr hf (fun q hq => hb q (by simp [hq])) (fun j2 j3 j4 w9 h8 h9 => hfin j2 j3 j4 w9 ?_ h9)
          rw [List.map_append, List.filter_append, List.map_cons, List.map_nil, List.filter_cons_of_pos (by simp [okF]; omega), List.filter_nil, List.append_assoc, List.singleton_append]
          exact h8
        · refine x_aload_n C dX5_takesOut_114 rfl ?_
          refine x_iload_n C dX5_takesOut_115 rfl ?_
          refine y_v1 C dX5_takesOut_116 kyX5_goesFold knX5_goesFold kmX5_185 hr.o (c_X5_goesFold l hr k (by simp; omega)) (by decide) (Nat.zero_le _) (Nat.zero_le _) (Nat.le_of_ble_eq_true rfl) (fun w116 q116 => ?_)
          obtain ⟨j2, j3, j4, hr, hf9⟩ := q116
          have hf := hf.tr hf9
          rw [dropI, if_pos (by simp; omega), show k.toNat = P0.length by omega, erase_at] at hr
          refine s_inc3_2 C dX5_takesOut_119 rfl (by first | (unfold iR; omega) | exact ⟨by omega, by omega⟩) ?_
          refine x_goto (tgt := 47) C dX5_takesOut_122 (by decide) ?_
          refine ih P0 R (k + -1) _ _ _ _ hP0 (by omega) hr hf (fun q hq => hb q (by simp [hq])) (fun j2 j3 j4 w9 h8 h9 => hfin j2 j3 j4 w9 ?_ h9)
          rw [List.map_append, List.filter_append, List.map_cons, List.map_nil, List.filter_cons_of_neg (by simp [okF]; omega), List.filter_nil, List.append_nil]
          exact h8
      · refine x_iconst C dX5_takesOut_92 ⟨by decide, by decide⟩ ?_
        refine x_goto (tgt := 97) C dX5_takesOut_93 (by decide) ?_
        refine x_isub C dX5_takesOut_97 (by first | (unfold iR; omega) | exact ⟨by omega, by omega⟩) ?_
        refine x_iast C dX5_takesOut_98 hr.a2 (by omega) (by rw [hr.l2]; omega) ?_
        refine ab_M_M2 hr hf (by rw [List.length_set]; exact hr.l2) (fun w hr hf => ?_)
        have ed : dnF a r = (r.1 - 1, r.2.1 - 0, r.2.2) := by
          unfold dnF
          rw [if_pos (by omega), if_neg (by omega)]
          all_goals simp
        rw [smid1 _ P0 R r j3 _ (by omega), smid1 _ P0 R r j2 _ (by omega)] at hr
        have hr : rM w h sg.length (P0 ++ dnF a r :: R).length hi.length mo wi nd tb pi lr lc um sm wp wr ac sz ra rn (sg ++ j1) ((P0 ++ dnF a r :: R).map (fun f => f.1) ++ j2) ((P0 ++ dnF a r :: R).map (fun f => f.2.1) ++ j3) ((P0 ++ dnF a r :: R).map (fun f => f.2.2) ++ j4) (hi.map (fun q => q.1) ++ j5) (hi.map (fun q => q.2) ++ j6) M7 M8 M9 M10 M11 M12 M13 M14 M15 M16 M17 M18 M19 M20 M21 M22 M23 := by
          rw [ed]
          simpa using hr
        have e2 := gmap_at (fun f : Int × Int × Int => f.1) P0 R (dnF a r) j2 (k := k) (by omega)
        have e3 := gmap_at (fun f : Int × Int × Int => f.2.1) P0 R (dnF a r) j3 (k := k) (by omega)
        have hdl : (dnF a r).1 ≤ (dnF a r).2.1 := by
          rw [ed]; simp only; omega
        refine x_aload_n C dX5_takesOut_99 rfl ?_
        refine x_get C dX5_takesOut_100 kfX5_13 hr.o rfl ?_
        refine x_iload_n C dX5_takesOut_103 rfl ?_
        refine x_iald C dX5_takesOut_104 hr.a2 (by omega) (by rw [hr.l2]; omega) ?_
        rw [e2]
        refine x_aload_n C dX5_takesOut_105 rfl ?_
        refine x_get C dX5_takesOut_106 kfX5_16 hr.o rfl ?_
        refine x_iload_n C dX5_takesOut_109 rfl ?_
        refine x_iald C dX5_takesOut_110 hr.a3 (by omega) (by rw [hr.l3]; omega) ?_
        rw [e3]
        refine x_icmp_ne (tgt := 119) C dX5_takesOut_111 (by decide) (fun c111 => ?_) (fun c111 => ?_)
        · refine s_inc3_2 C dX5_takesOut_119 rfl (by first | (unfold iR; omega) | exact ⟨by omega, by omega⟩) ?_
          refine x_goto (tgt := 47) C dX5_takesOut_122 (by decide) ?_
          refine ih P0 (dnF a r :: R) (k + -1) j2 j3 j4 _ hP0 (by omega) hr hf (fun q hq => hb q (by simp [hq])) (fun j2 j3 j4 w9 h8 h9 => hfin j2 j3 j4 w9 ?_ h9)
          rw [List.map_append, List.filter_append, List.map_cons, List.map_nil, List.filter_cons_of_pos (by simp [okF]; omega), List.filter_nil, List.append_assoc, List.singleton_append]
          exact h8
        · refine x_aload_n C dX5_takesOut_114 rfl ?_
          refine x_iload_n C dX5_takesOut_115 rfl ?_
          refine y_v1 C dX5_takesOut_116 kyX5_goesFold knX5_goesFold kmX5_185 hr.o (c_X5_goesFold l hr k (by simp; omega)) (by decide) (Nat.zero_le _) (Nat.zero_le _) (Nat.le_of_ble_eq_true rfl) (fun w116 q116 => ?_)
          obtain ⟨j2, j3, j4, hr, hf9⟩ := q116
          have hf := hf.tr hf9
          rw [dropI, if_pos (by simp; omega), show k.toNat = P0.length by omega, erase_at] at hr
          refine s_inc3_2 C dX5_takesOut_119 rfl (by first | (unfold iR; omega) | exact ⟨by omega, by omega⟩) ?_
          refine x_goto (tgt := 47) C dX5_takesOut_122 (by decide) ?_
          refine ih P0 R (k + -1) _ _ _ _ hP0 (by omega) hr hf (fun q hq => hb q (by simp [hq])) (fun j2 j3 j4 w9 h8 h9 => hfin j2 j3 j4 w9 ?_ h9)
          rw [List.map_append, List.filter_append, List.map_cons, List.map_nil, List.filter_cons_of_neg (by simp [okF]; omega), List.filter_nil, List.append_nil]
          exact h8
    · refine x_iconst C dX5_takesOut_68 ⟨by decide, by decide⟩ ?_
      refine x_goto (tgt := 73) C dX5_takesOut_69 (by decide) ?_
      refine x_isub C dX5_takesOut_73 (by first | (unfold iR; omega) | exact ⟨by omega, by omega⟩) ?_
      refine x_iast C dX5_takesOut_74 hr.a3 (by omega) (by rw [hr.l3]; omega) ?_
      refine ab_M_M3 hr hf (by rw [List.length_set]; exact hr.l3) (fun w hr hf => ?_)
      refine x_aload_n C dX5_takesOut_75 rfl ?_
      refine x_get C dX5_takesOut_76 kfX5_13 hr.o rfl ?_
      refine x_iload_n C dX5_takesOut_79 rfl ?_
      refine x_dup2 C dX5_takesOut_80 rfl rfl ?_
      refine x_iald C dX5_takesOut_81 hr.a2 (by omega) (by rw [hr.l2]; omega) ?_
      rw [e2]
      refine x_iload_n C dX5_takesOut_82 rfl ?_
      refine x_aload_n C dX5_takesOut_83 rfl ?_
      refine x_get C dX5_takesOut_84 kfX5_13 hr.o rfl ?_
      refine x_iload_n C dX5_takesOut_87 rfl ?_
      refine x_iald C dX5_takesOut_88 hr.a2 (by omega) (by rw [hr.l2]; omega) ?_
      rw [e2]
      refine x_icmp_ge (tgt := 96) C dX5_takesOut_89 (by decide) (fun c89 => ?_) (fun c89 => ?_)
      · refine x_iconst C dX5_takesOut_96 ⟨by decide, by decide⟩ ?_
        refine x_isub C dX5_takesOut_97 (by first | (unfold iR; omega) | exact ⟨by omega, by omega⟩) ?_
        refine x_iast C dX5_takesOut_98 hr.a2 (by omega) (by rw [hr.l2]; omega) ?_
        refine ab_M_M2 hr hf (by rw [List.length_set]; exact hr.l2) (fun w hr hf => ?_)
        have ed : dnF a r = (r.1 - 0, r.2.1 - 1, r.2.2) := by
          unfold dnF
          rw [if_neg (by omega), if_pos (by omega)]
          all_goals simp
        rw [smid1 _ P0 R r j3 _ (by omega), smid1 _ P0 R r j2 _ (by omega)] at hr
        have hr : rM w h sg.length (P0 ++ dnF a r :: R).length hi.length mo wi nd tb pi lr lc um sm wp wr ac sz ra rn (sg ++ j1) ((P0 ++ dnF a r :: R).map (fun f => f.1) ++ j2) ((P0 ++ dnF a r :: R).map (fun f => f.2.1) ++ j3) ((P0 ++ dnF a r :: R).map (fun f => f.2.2) ++ j4) (hi.map (fun q => q.1) ++ j5) (hi.map (fun q => q.2) ++ j6) M7 M8 M9 M10 M11 M12 M13 M14 M15 M16 M17 M18 M19 M20 M21 M22 M23 := by
          rw [ed]
          simpa using hr
        have e2 := gmap_at (fun f : Int × Int × Int => f.1) P0 R (dnF a r) j2 (k := k) (by omega)
        have e3 := gmap_at (fun f : Int × Int × Int => f.2.1) P0 R (dnF a r) j3 (k := k) (by omega)
        have hdl : (dnF a r).1 ≤ (dnF a r).2.1 := by
          rw [ed]; simp only; omega
        refine x_aload_n C dX5_takesOut_99 rfl ?_
        refine x_get C dX5_takesOut_100 kfX5_13 hr.o rfl ?_
        refine x_iload_n C dX5_takesOut_103 rfl ?_
        refine x_iald C dX5_takesOut_104 hr.a2 (by omega) (by rw [hr.l2]; omega) ?_
        rw [e2]
        refine x_aload_n C dX5_takesOut_105 rfl ?_
        refine x_get C dX5_takesOut_106 kfX5_16 hr.o rfl ?_
        refine x_iload_n C dX5_takesOut_109 rfl ?_
        refine x_iald C dX5_takesOut_110 hr.a3 (by omega) (by rw [hr.l3]; omega) ?_
        rw [e3]
        refine x_icmp_ne (tgt := 119) C dX5_takesOut_111 (by decide) (fun c111 => ?_) (fun c111 => ?_)
        · refine s_inc3_2 C dX5_takesOut_119 rfl (by first | (unfold iR; omega) | exact ⟨by omega, by omega⟩) ?_
          refine x_goto (tgt := 47) C dX5_takesOut_122 (by decide) ?_
          refine ih P0 (dnF a r :: R) (k + -1) j2 j3 j4 _ hP0 (by omega) hr hf (fun q hq => hb q (by simp [hq])) (fun j2 j3 j4 w9 h8 h9 => hfin j2 j3 j4 w9 ?_ h9)
          rw [List.map_append, List.filter_append, List.map_cons, List.map_nil, List.filter_cons_of_pos (by simp [okF]; omega), List.filter_nil, List.append_assoc, List.singleton_append]
          exact h8
        · refine x_aload_n C dX5_takesOut_114 rfl ?_
          refine x_iload_n C dX5_takesOut_115 rfl ?_
          refine y_v1 C dX5_takesOut_116 kyX5_goesFold knX5_goesFold kmX5_185 hr.o (c_X5_goesFold l hr k (by simp; omega)) (by decide) (Nat.zero_le _) (Nat.zero_le _) (Nat.le_of_ble_eq_true rfl) (fun w116 q116 => ?_)
          obtain ⟨j2, j3, j4, hr, hf9⟩ := q116
          have hf := hf.tr hf9
          rw [dropI, if_pos (by simp; omega), show k.toNat = P0.length by omega, erase_at] at hr
          refine s_inc3_2 C dX5_takesOut_119 rfl (by first | (unfold iR; omega) | exact ⟨by omega, by omega⟩) ?_
          refine x_goto (tgt := 47) C dX5_takesOut_122 (by decide) ?_
          refine ih P0 R (k + -1) _ _ _ _ hP0 (by omega) hr hf (fun q hq => hb q (by simp [hq])) (fun j2 j3 j4 w9 h8 h9 => hfin j2 j3 j4 w9 ?_ h9)
          rw [List.map_append, List.filter_append, List.map_cons, List.map_nil, List.filter_cons_of_neg (by simp [okF]; omega), List.filter_nil, List.append_nil]
          exact h8
      · refine x_iconst C dX5_takesOut_92 ⟨by decide, by decide⟩ ?_
        refine x_goto (tgt := 97) C dX5_takesOut_93 (by decide) ?_
        refine x_isub C dX5_takesOut_97 (by first | (unfold iR; omega) | exact ⟨by omega, by omega⟩) ?_
        refine x_iast C dX5_takesOut_98 hr.a2 (by omega) (by rw [hr.l2]; omega) ?_
        refine ab_M_M2 hr hf (by rw [List.length_set]; exact hr.l2) (fun w hr hf => ?_)
        have ed : dnF a r = (r.1 - 1, r.2.1 - 1, r.2.2) := by
          unfold dnF
          rw [if_pos (by omega), if_pos (by omega)]
          all_goals simp
        rw [smid1 _ P0 R r j3 _ (by omega), smid1 _ P0 R r j2 _ (by omega)] at hr
        have hr : rM w h sg.length (P0 ++ dnF a r :: R).length hi.length mo wi nd tb pi lr lc um sm wp wr ac sz ra rn (sg ++ j1) ((P0 ++ dnF a r :: R).map (fun f => f.1) ++ j2) ((P0 ++ dnF a r :: R).map (fun f => f.2.1) ++ j3) ((P0 ++ dnF a r :: R).map (fun f => f.2.2) ++ j4) (hi.map (fun q => q.1) ++ j5) (hi.map (fun q => q.2) ++ j6) M7 M8 M9 M10 M11 M12 M13 M14 M15 M16 M17 M18 M19 M20 M21 M22 M23 := by
          rw [ed]
          simpa using hr
        have e2 := gmap_at (fun f : Int × Int × Int => f.1) P0 R (dnF a r) j2 (k := k) (by omega)
        have e3 := gmap_at (fun f : Int × Int × Int => f.2.1) P0 R (dnF a r) j3 (k := k) (by omega)
        have hdl : (dnF a r).1 ≤ (dnF a r).2.1 := by
          rw [ed]; simp only; omega
        refine x_aload_n C dX5_takesOut_99 rfl ?_
        refine x_get C dX5_takesOut_100 kfX5_13 hr.o rfl ?_
        refine x_iload_n C dX5_takesOut_103 rfl ?_
        refine x_iald C dX5_takesOut_104 hr.a2 (by omega) (by rw [hr.l2]; omega) ?_
        rw [e2]
        refine x_aload_n C dX5_takesOut_105 rfl ?_
        refine x_get C dX5_takesOut_106 kfX5_16 hr.o rfl ?_
        refine x_iload_n C dX5_takesOut_109 rfl ?_
        refine x_iald C dX5_takesOut_110 hr.a3 (by omega) (by rw [hr.l3]; omega) ?_
        rw [e3]
        refine x_icmp_ne (tgt := 119) C dX5_takesOut_111 (by decide) (fun c111 => ?_) (fun c111 => ?_)
        · refine s_inc3_2 C dX5_takesOut_119 rfl (by first | (unfold iR; omega) | exact ⟨by omega, by omega⟩) ?_
          refine x_goto (tgt := 47) C dX5_takesOut_122 (by decide) ?_
          refine ih P0 (dnF a r :: R) (k + -1) j2 j3 j4 _ hP0 (by omega) hr hf (fun q hq => hb q (by simp [hq])) (fun j2 j3 j4 w9 h8 h9 => hfin j2 j3 j4 w9 ?_ h9)
          rw [List.map_append, List.filter_append, List.map_cons, List.map_nil, List.filter_cons_of_pos (by simp [okF]; omega), List.filter_nil, List.append_assoc, List.singleton_append]
          exact h8
        · refine x_aload_n C dX5_takesOut_114 rfl ?_
          refine x_iload_n C dX5_takesOut_115 rfl ?_
          refine y_v1 C dX5_takesOut_116 kyX5_goesFold knX5_goesFold kmX5_185 hr.o (c_X5_goesFold l hr k (by simp; omega)) (by decide) (Nat.zero_le _) (Nat.zero_le _) (Nat.le_of_ble_eq_true rfl) (fun w116 q116 => ?_)
          obtain ⟨j2, j3, j4, hr, hf9⟩ := q116
          have hf := hf.tr hf9
          rw [dropI, if_pos (by simp; omega), show k.toNat = P0.length by omega, erase_at] at hr
          refine s_inc3_2 C dX5_takesOut_119 rfl (by first | (unfold iR; omega) | exact ⟨by omega, by omega⟩) ?_
          refine x_goto (tgt := 47) C dX5_takesOut_122 (by decide) ?_
          refine ih P0 R (k + -1) _ _ _ _ hP0 (by omega) hr hf (fun q hq => hb q (by simp [hq])) (fun j2 j3 j4 w9 h8 h9 => hfin j2 j3 j4 w9 ?_ h9)
          rw [List.map_append, List.filter_append, List.map_cons, List.map_nil, List.filter_cons_of_neg (by simp [okF]; omega), List.filter_nil, List.append_nil]
          exact h8

set_option maxHeartbeats 1000000 in
set_option maxRecDepth 100000 in
theorem lp_X5_takesOut_3 {t : TX} {l : Launch} {n0 : Nat} {w0 : mW} {h : Nat} {mn fc mo wi nd tb pi lr lc um sm wp wr ac sz ra rn : Int} {M1 M2 M3 M4 M7 M8 M9 M10 M11 M12 M13 M14 M15 M16 M17 M18 M19 M20 M21 M22 M23 : List Int} {j5 j6 : List Int} (a : Int) (C : Cb t l cX5_takesOut RX5 3 none 1 0 0)  : ∀ (R P : List (Int × Int)) (k : Int) (w : mW), rM w h mn fc (P ++ R).length mo wi nd tb pi lr lc um sm wp wr ac sz ra rn M1 M2 M3 M4 ((P ++ R).map (fun f => f.1) ++ j5) ((P ++ R).map (fun f => f.2) ++ j6) M7 M8 M9 M10 M11 M12 M13 M14 M15 M16 M17 M18 M19 M20 M21 M22 M23 → frR w0 w h (h + 23) → k = P.length → smH R → (∀ (k : Int) (w : mW), rM w h mn fc (P ++ R.map (dnH a)).length mo wi nd tb pi lr lc um sm wp wr ac sz ra rn M1 M2 M3 M4 ((P ++ R.map (dnH a)).map (fun f => f.1) ++ j5) ((P ++ R.map (dnH a)).map (fun f => f.2) ++ j6) M7 M8 M9 M10 M11 M12 M13 M14 M15 M16 M17 M18 M19 M20 M21 M22 M23 → frR w0 w h (h + 23) → J t 0 0 196 [some (vr h), some (vi a), some (vi k)] [] n0 w) → J t 0 0 158 [some (vr h), some (vi a), some (vi k)] [] n0 w := by
  intro R
  induction R with
  | nil =>
    intro P k w hr hf hk hb kx
    have hr2 := hr
    have l5 := hr.l5
    have l6 := hr.l6
    simp only [List.length_append, List.length_map, List.length_cons, List.length_nil] at l5 l6
    rw [List.append_nil] at hr
    refine x_iload_n C dX5_takesOut_158 rfl ?_
    refine x_aload_n C dX5_takesOut_159 rfl ?_
    refine x_get C dX5_takesOut_160 kfX5_110 hr.o rfl ?_
    refine x_icmp_ge (tgt := 196) C dX5_takesOut_163 (by decide) (fun c163 => ?_) (fun c163 => absurd c163 (by omega))
    exact kx k w (by simpa using hr) hf
  | cons r R ih =>
    intro P k w hr hf hk hb kx
    have l5 := hr.l5
    have l6 := hr.l6
    simp only [List.length_append, List.length_map, List.length_cons, List.length_nil] at l5 l6
    have hbr := hb r List.mem_cons_self
    have hcl : (P ++ r :: R).length = P.length + (R.length + 1) := by simp
    have e5 : ((P ++ r :: R).map (fun f => f.1) ++ j5).getD k.toNat 0 = r.1 := gmap_at _ P R r j5 hk
    have e6 : ((P ++ r :: R).map (fun f => f.2) ++ j6).getD k.toNat 0 = r.2 := gmap_at _ P R r j6 hk
    refine x_iload_n C dX5_takesOut_158 rfl ?_
    refine x_aload_n C dX5_takesOut_159 rfl ?_
    refine x_get C dX5_takesOut_160 kfX5_110 hr.o rfl ?_
    refine x_icmp_ge (tgt := 196) C dX5_takesOut_163 (by decide) (fun c163 => absurd c163 (by omega)) (fun c163 => ?_)
    refine x_aload_n C dX5_takesOut_166 rfl ?_
    refine x_get C dX5_takesOut_167 kfX5_22 hr.o rfl ?_
    refine x_iload_n C dX5_takesOut_170 rfl ?_
    refine x_dup2 C dX5_takesOut_171 rfl rfl ?_
    refine x_iald C dX5_takesOut_172 hr.a5 (by omega) (by rw [hr.l5]; omega) ?_
    rw [e5]
    refine x_iload_n C dX5_takesOut_173 rfl ?_
    refine x_aload_n C dX5_takesOut_174 rfl ?_
    refine x_get C dX5_takesOut_175 kfX5_22 hr.o rfl ?_
    refine x_iload_n C dX5_takesOut_178 rfl ?_
    refine x_iald C dX5_takesOut_179 hr.a5 (by omega) (by rw [hr.l5]; omega) ?_
    rw [e5]
    refine x_icmp_ge (tgt := 187) C dX5_takesOut_180 (by decide) (fun c180 => ?_) (fun c180 => ?_)
    · refine x_iconst C dX5_takesOut_187 ⟨by decide, by decide⟩ ?_
      refine x_isub C dX5_takesOut_188 (by first | (unfold iR; omega) | exact ⟨by omega, by omega⟩) ?_
      refine x_iast C dX5_takesOut_189 hr.a5 (by omega) (by rw [hr.l5]; omega) ?_
      refine ab_M_M5 hr hf (by rw [List.length_set]; exact hr.l5) (fun w hr hf => ?_)
      refine s_inc3_2 C dX5_takesOut_190 rfl (by first | (unfold iR; omega) | exact ⟨by omega, by omega⟩) ?_
      refine x_goto (tgt := 158) C dX5_takesOut_193 (by decide) ?_
      have eu : dnH a r = (r.1 - 0, r.2) := by
        unfold dnH
        rw [if_neg (by omega)]
        all_goals simp
      rw [mset_at _ P R r j5 _ (by omega)] at hr
      refine ih (P ++ [dnH a r]) (k + 1) w ?_ hf (by simp; omega) (fun q hq => hb q (List.mem_cons_of_mem _ hq)) (fun k9 w9 h8 h9 => kx k9 w9 (by simpa using h8) h9)
      rw [eu]
      simpa using hr
    · refine x_iconst C dX5_takesOut_183 ⟨by decide, by decide⟩ ?_
      refine x_goto (tgt := 188) C dX5_takesOut_184 (by decide) ?_
      refine x_isub C dX5_takesOut_188 (by first | (unfold iR; omega) | exact ⟨by omega, by omega⟩) ?_
      refine x_iast C dX5_takesOut_189 hr.a5 (by omega) (by rw [hr.l5]; omega) ?_
      refine ab_M_M5 hr hf (by rw [List.length_set]; exact hr.l5) (fun w hr hf => ?_)
      refine s_inc3_2 C dX5_takesOut_190 rfl (by first | (unfold iR; omega) | exact ⟨by omega, by omega⟩) ?_
      refine x_goto (tgt := 158) C dX5_takesOut_193 (by decide) ?_
      have eu : dnH a r = (r.1 - 1, r.2) := by
        unfold dnH
        rw [if_pos (by omega)]
        all_goals simp
      rw [mset_at _ P R r j5 _ (by omega)] at hr
      refine ih (P ++ [dnH a r]) (k + 1) w ?_ hf (by simp; omega) (fun q hq => hb q (List.mem_cons_of_mem _ hq)) (fun k9 w9 h8 h9 => kx k9 w9 (by simpa using h8) h9)
      rw [eu]
      simpa using hr

theorem hiCut_if (a : Int) (hi : List (Int × Int)) : hiCut a hi = if 0 ≤ fIdx (pH a) hi 0 ∧ 0 ≤ fIdx (pH (a + 1)) hi 0 then dropI hi (fIdx (pH a) hi 0) else hi := by
  unfold hiCut
  by_cases h1 : 0 ≤ fIdx (pH (a + 1)) hi 0
  · rw [if_pos h1]
    by_cases h2 : 0 ≤ fIdx (pH a) hi 0
    · rw [if_pos ⟨h2, h1⟩]
    · rw [if_neg (fun h => h2 h.1), dropI, if_neg (fun h => h2 h.1)]
  · rw [if_neg h1, if_neg (fun h => h1 h.2)]
theorem fI4_i {α : Type} (p : α → Bool) (l : List α) : (fI4 p l = -4 ↔ fIdx p l 0 < 0) ∧ (fI4 p l ≠ -4 → fI4 p l = fIdx p l 0 ∧ 0 ≤ fIdx p l 0) := by
  unfold fI4
  by_cases h : fIdx p l 0 < 0
  · rw [if_pos h]; exact ⟨⟨fun _ => h, fun _ => rfl⟩, fun h1 => absurd rfl h1⟩
  · rw [if_neg h]; exact ⟨⟨fun h1 => by omega, fun h1 => absurd h1 h⟩, fun _ => ⟨rfl, by omega⟩⟩

set_option maxHeartbeats 1000000 in
set_option maxRecDepth 100000 in
theorem c_X5_takesOut (l : Launch) {w : mW} {h : Nat} {F : mF} {um sm wp wr ac sz ra rn : Int} {M14 M15 M16 M17 M18 M19 M20 M21 M22 M23 : List Int} (hN : isN w h F um sm wp wr ac sz ra rn M14 M15 M16 M17 M18 M19 M20 M21 M22 M23) (a : Int) (hW : wfF F) (ha : 0 ≤ a ∧ a < F.1.1.length) : Cv l yX5_takesOut cX5_takesOut 3 1 [vr h, vi a] w (fun w' => isN w' h (delS F.1 a, F.2) um sm wp wr ac sz ra rn M14 M15 M16 M17 M18 M19 M20 M21 M22 M23 ∧ frR w w' h (h + 23)) := by
  refine Cv.of (ml := [some (vr h), some (vi a), none]) kyX5_takesOut rfl (Nat.le_of_ble_eq_true rfl) rfl ?_
  intro t n C hQ
  have hf : frR w w h (h + 23) := frR.rf
  obtain ⟨j1, j2, j3, j4, j5, j6, pi, lr, lc, M7, M8, M9, M10, M11, M12, M13, hr⟩ := hN
  obtain ⟨⟨sg, fo, hi⟩, mo, wi, nd, tb⟩ := F
  obtain ⟨f1, f2, f3, f4, f5, f6, f7, f8, f9, f10, f11, f12⟩ := id hW
  simp only at hr ha f1 f2 f3 f4 f5 f6 f7 f8 ⊢
  obtain ⟨P, x, R, rfl, hP⟩ := spl sg a.toNat (by omega)
  have ea : a = P.length := by omega
  have hln : (P ++ x :: R).length = P.length + (R.length + 1) := by simp
  rw [hln] at ha f1
  have emn : (((P ++ x :: R).length : Nat) : Int) - 1 = ((P ++ R).length : Nat) := by simp; omega
  refine x_aload_n C dX5_takesOut_0 rfl ?_
  refine x_dup C dX5_takesOut_1 rfl ?_
  refine x_get C dX5_takesOut_2 kfX5_89 hr.o rfl ?_
  refine x_iconst C dX5_takesOut_5 ⟨by decide, by decide⟩ ?_
  refine x_isub C dX5_takesOut_6 (by first | (unfold iR; omega) | exact ⟨by omega, by omega⟩) ?_
  refine x_put C dX5_takesOut_7 kfX5_89 kw_5_0 rfl rfl hr.o (Nat.le_of_ble_eq_true rfl) ?_
  refine ab_M_mn hr hf (fun w hr hf => ?_)
  refine x_iload_n C dX5_takesOut_10 rfl ?_
  refine s_ist3_2 C dX5_takesOut_11 rfl ?_
  rw [emn] at hr
  refine lp_X5_takesOut_1 (G := P ++ R) (J1 := j1) a C (fun P9 c9 k9 w hG9 hr hf => ?_) R P x a w ea (by simpa only [List.append_assoc, List.cons_append] using hr) hf rfl (by simp)
  subst hG9
  refine x_aload_n C dX5_takesOut_40 rfl ?_
  refine x_get C dX5_takesOut_41 kfX5_107 hr.o rfl ?_
  refine x_iconst C dX5_takesOut_44 ⟨by decide, by decide⟩ ?_
  refine x_isub C dX5_takesOut_45 (by first | (unfold iR; omega) | exact ⟨by omega, by omega⟩) ?_
  refine s_ist3_2 C dX5_takesOut_46 rfl ?_
  refine lp_X5_takesOut_2 (sg := P ++ R) (j1 := c9 :: j1) a C fo.length fo [] _ j2 j3 j4 w rfl (by omega) (by simpa using hr) hf (fun q hq => by have := f4 q hq; omega) (fun j2 j3 j4 w hr hf k => ?_)
  rw [List.append_nil] at hr
  have hi1 := fI4_i (pH a) hi
  have hi2 := fI4_i (pH (a + 1)) hi
  have hsm : smH hi := fun q hq => by have := f7 q hq; omega
  refine x_aload_n C dX5_takesOut_125 rfl ?_
  refine x_iload_n C dX5_takesOut_126 rfl ?_
  refine y_p1 C dX5_takesOut_127 kyX5_hintOf knX5_hintOf kmX5_120 hr.o (c_X5_hintOf l hr f8 a) (by decide) (Nat.zero_le _) (Nat.zero_le _) (Nat.le_of_ble_eq_true rfl) (fun z127 q127 => ?_)
  refine x_bipush C dX5_takesOut_130 ⟨by decide, by decide⟩ ?_
  refine x_icmp_eq (tgt := 156) C dX5_takesOut_132 (by decide) (fun c132 => ?_) (fun c132 => ?_)
  · refine x_iconst C dX5_takesOut_156 ⟨by decide, by decide⟩ ?_
    refine s_ist3_2 C dX5_takesOut_157 rfl ?_
    have eh : hiCut a hi = hi := by rw [hiCut_if]; exact if_neg (by omega)
    rw [← eh] at hr
    refine lp_X5_takesOut_3 a C (hiCut a hi) [] 0 _ hr hf rfl (fun q hq => hsm q (hiCut_mem hq)) (fun k w hr hf => ?_)
    rw [List.nil_append] at hr
    refine x_vret C hQ dX5_takesOut_196 (Nat.le_refl _) (Nat.le_refl _) ?_
    refine ⟨rfl, rfl, ?_, hf⟩
    have e7 : delS (P ++ x :: R, fo, hi) a = (P ++ R, (fo.map (dnF a)).filter okF, (hiCut a hi).map (dnH a)) := by
      unfold delS
      rw [if_pos (by simp only; rw [hln]; exact ha)]
      simp only
      rw [show a.toNat = P.length by omega, erase_at]
    simp only
    rw [e7]
    exact ⟨_, _, _, _, _, _, _, _, _, _, _, _, _, _, _, _, hr⟩
  · refine x_aload_n C dX5_takesOut_135 rfl ?_
    refine x_iload_n C dX5_takesOut_136 rfl ?_
    refine x_iconst C dX5_takesOut_137 ⟨by decide, by decide⟩ ?_
    refine x_iadd C dX5_takesOut_138 (by first | (unfold iR; omega) | exact ⟨by omega, by omega⟩) ?_
    refine y_p1 C dX5_takesOut_139 kyX5_hintOf knX5_hintOf kmX5_120 hr.o (c_X5_hintOf l hr f8 (a + 1)) (by decide) (Nat.zero_le _) (Nat.zero_le _) (Nat.le_of_ble_eq_true rfl) (fun z139 q139 => ?_)
    refine x_bipush C dX5_takesOut_142 ⟨by decide, by decide⟩ ?_
    refine x_icmp_eq (tgt := 156) C dX5_takesOut_144 (by decide) (fun c144 => ?_) (fun c144 => ?_)
    · refine x_iconst C dX5_takesOut_156 ⟨by decide, by decide⟩ ?_
      refine s_ist3_2 C dX5_takesOut_157 rfl ?_
      have eh : hiCut a hi = hi := by rw [hiCut_if]; exact if_neg (by omega)
      rw [← eh] at hr
      refine lp_X5_takesOut_3 a C (hiCut a hi) [] 0 _ hr hf rfl (fun q hq => hsm q (hiCut_mem hq)) (fun k w hr hf => ?_)
      rw [List.nil_append] at hr
      refine x_vret C hQ dX5_takesOut_196 (Nat.le_refl _) (Nat.le_refl _) ?_
      refine ⟨rfl, rfl, ?_, hf⟩
      have e7 : delS (P ++ x :: R, fo, hi) a = (P ++ R, (fo.map (dnF a)).filter okF, (hiCut a hi).map (dnH a)) := by
        unfold delS
        rw [if_pos (by simp only; rw [hln]; exact ha)]
        simp only
        rw [show a.toNat = P.length by omega, erase_at]
      simp only
      rw [e7]
      exact ⟨_, _, _, _, _, _, _, _, _, _, _, _, _, _, _, _, hr⟩
    · refine x_aload_n C dX5_takesOut_147 rfl ?_
      refine x_aload_n C dX5_takesOut_148 rfl ?_
      refine x_iload_n C dX5_takesOut_149 rfl ?_
      refine y_p1 C dX5_takesOut_150 kyX5_hintOf knX5_hintOf kmX5_120 hr.o (c_X5_hintOf l hr f8 a) (by decide) (Nat.zero_le _) (Nat.zero_le _) (Nat.le_of_ble_eq_true rfl) (fun z150 q150 => ?_)
      have ez : z150 = fIdx (pH a) hi 0 := by rw [q150]; exact (hi1.2 (by omega)).1
      subst ez
      have hlt9 : fIdx (pH a) hi 0 < hi.length := by
        obtain ⟨y, g1, g2, g3⟩ := fIdx_find (pH a) hi (fun _ => 0) [] (hi1.2 (by omega)).2
        exact g2
      refine y_v1 C dX5_takesOut_153 kyX5_goesHint knX5_goesHint kmX5_189 hr.o (c_X5_goesHint l hr (fIdx (pH a) hi 0) ⟨(hi1.2 (by omega)).2, hlt9⟩) (by decide) (Nat.zero_le _) (Nat.zero_le _) (Nat.le_of_ble_eq_true rfl) (fun w153 q153 => ?_)
      obtain ⟨j5, j6, hr, hf9⟩ := q153
      have hf := hf.tr hf9
      refine x_iconst C dX5_takesOut_156 ⟨by decide, by decide⟩ ?_
      refine s_ist3_2 C dX5_takesOut_157 rfl ?_
      have eh : hiCut a hi = (dropI hi (fIdx (pH a) hi 0)) := by rw [hiCut_if]; exact if_pos ⟨by omega, by omega⟩
      rw [← eh] at hr
      refine lp_X5_takesOut_3 a C (hiCut a hi) [] 0 _ hr hf rfl (fun q hq => hsm q (hiCut_mem hq)) (fun k w hr hf => ?_)
      rw [List.nil_append] at hr
      refine x_vret C hQ dX5_takesOut_196 (Nat.le_refl _) (Nat.le_refl _) ?_
      refine ⟨rfl, rfl, ?_, hf⟩
      have e7 : delS (P ++ x :: R, fo, hi) a = (P ++ R, (fo.map (dnF a)).filter okF, (hiCut a hi).map (dnH a)) := by
        unfold delS
        rw [if_pos (by simp only; rw [hln]; exact ha)]
        simp only
        rw [show a.toNat = P.length by omega, erase_at]
      simp only
      rw [e7]
      exact ⟨_, _, _, _, _, _, _, _, _, _, _, _, _, _, _, _, hr⟩
