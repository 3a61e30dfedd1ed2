/-! ===== the reference: what it remembers ===== -/
set_option maxHeartbeats 1000000 in
set_option maxRecDepth 100000 in
theorem lp_X5_remembers {t : TX} {l : Launch} {n0 : Nat} {w0 : mW} {h : Nat} {F : mF} {um sm wr ac sz ra rn : Int} {M14 M15 M16 M21 M22 M23 : List Int} {wp : Int} {S : mScr} {j1 j2 j3 j4 j5 j6 J7 J8 J9 J10 J11 J12 J13 : List Int} (C : Cb t l cX5_remembers RX5 2 none 4 0 0)  (kx : ∀ (k : Int) (j17 j18 j19 j20 : List Int) (w : mW), rM w h F.1.1.length F.1.2.1.length F.1.2.2.length F.2.1 F.2.2.1 F.2.2.2.1 F.2.2.2.2 S.1.length ((S.2.length : Int) - 1) (lastC S.2) um sm wp wr ac sz ra rn (F.1.1 ++ j1) (F.1.2.1.map (fun f => f.1) ++ j2) (F.1.2.1.map (fun f => f.2.1) ++ j3) (F.1.2.1.map (fun f => f.2.2) ++ j4) (F.1.2.2.map (fun q => q.1) ++ j5) (F.1.2.2.map (fun q => q.2) ++ j6) (S.1.map (fun q => q.1) ++ J7) (S.1.map (fun q => q.2.1) ++ J8) (S.1.map (fun q => q.2.2.1) ++ J9) (S.1.map (fun q => q.2.2.2.1) ++ J10) (S.1.map (fun q => q.2.2.2.2) ++ J11) (S.2.map (fun q => q.1) ++ J12) (S.2.map (fun q => q.2) ++ J13) M14 M15 M16 (S.1.map (fun q => q.1) ++ j17) (S.1.map (fun q => q.2.2.1) ++ j18) (S.1.map (fun q => q.2.2.2.1) ++ j19) (S.1.map (fun q => q.2.2.2.2) ++ j20) M21 M22 M23 → frR w0 w h (h + 23) → J t 0 0 76 [some (vr h), some (vi k)] [] n0 w) : ∀ (R P : List mP) (k : Int) (j17 j18 j19 j20 : List Int) (w : mW), S.1 = P ++ R → k = P.length → rM w h F.1.1.length F.1.2.1.length F.1.2.2.length F.2.1 F.2.2.1 F.2.2.2.1 F.2.2.2.2 S.1.length ((S.2.length : Int) - 1) (lastC S.2) um sm wp wr ac sz ra rn (F.1.1 ++ j1) (F.1.2.1.map (fun f => f.1) ++ j2) (F.1.2.1.map (fun f => f.2.1) ++ j3) (F.1.2.1.map (fun f => f.2.2) ++ j4) (F.1.2.2.map (fun q => q.1) ++ j5) (F.1.2.2.map (fun q => q.2) ++ j6) (S.1.map (fun q => q.1) ++ J7) (S.1.map (fun q => q.2.1) ++ J8) (S.1.map (fun q => q.2.2.1) ++ J9) (S.1.map (fun q => q.2.2.2.1) ++ J10) (S.1.map (fun q => q.2.2.2.2) ++ J11) (S.2.map (fun q => q.1) ++ J12) (S.2.map (fun q => q.2) ++ J13) M14 M15 M16 (P.map (fun q => q.1) ++ j17) (P.map (fun q => q.2.2.1) ++ j18) (P.map (fun q => q.2.2.2.1) ++ j19) (P.map (fun q => q.2.2.2.2) ++ j20) M21 M22 M23 → frR w0 w h (h + 23) → J t 0 0 14 [some (vr h), some (vi k)] [] n0 w := by
  intro R
  induction R with
  | nil =>
    intro P k j17 j18 j19 j20 w hP hk hr hf
    rw [List.append_nil] at hP
    have hPl : S.1.length = P.length := by rw [hP]
    refine x_iload_n C dX5_remembers_14 rfl ?_
    refine x_aload_n C dX5_remembers_15 rfl ?_
    refine x_get C dX5_remembers_16 kfX5_117 hr.o rfl ?_
    refine x_icmp_ge (tgt := 76) C dX5_remembers_19 (by decide) (fun c19 => ?_) (fun c19 => absurd c19 (by omega))
    rw [← hP] at hr
    exact kx k j17 j18 j19 j20 w hr hf
  | cons q R ih =>
    intro P k j17 j18 j19 j20 w hP hk hr hf
    have hPl : S.1.length = P.length + (R.length + 1) := by rw [hP]; simp
    have l7 := hr.l7
    have l9 := hr.l9
    have l10 := hr.l10
    have l11 := hr.l11
    have l17 := hr.l17
    have l18 := hr.l18
    have l19 := hr.l19
    have l20 := hr.l20
    simp only [List.length_append, List.length_map] at l7 l9 l10 l11 l17 l18 l19 l20
    obtain ⟨x17, j17, rfl⟩ : ∃ u v, j17 = u :: v := List.exists_cons_of_length_pos (by omega)
    obtain ⟨x18, j18, rfl⟩ : ∃ u v, j18 = u :: v := List.exists_cons_of_length_pos (by omega)
    obtain ⟨x19, j19, rfl⟩ : ∃ u v, j19 = u :: v := List.exists_cons_of_length_pos (by omega)
    obtain ⟨x20, j20, rfl⟩ : ∃ u v, j20 = u :: v := List.exists_cons_of_length_pos (by omega)
    have e7 : (S.1.map (fun q => q.1) ++ J7).getD k.toNat 0 = q.1 := by rw [hP]; exact gmap_at _ P R q J7 hk
    have e9 : (S.1.map (fun q => q.2.2.1) ++ J9).getD k.toNat 0 = q.2.2.1 := by rw [hP]; exact gmap_at _ P R q J9 hk
    have e10 : (S.1.map (fun q => q.2.2.2.1) ++ J10).getD k.toNat 0 = q.2.2.2.1 := by rw [hP]; exact gmap_at _ P R q J10 hk
    have e11 : (S.1.map (fun q => q.2.2.2.2) ++ J11).getD k.toNat 0 = q.2.2.2.2 := by rw [hP]; exact gmap_at _ P R q J11 hk
    refine x_iload_n C dX5_remembers_14 rfl ?_
    refine x_aload_n C dX5_remembers_15 rfl ?_
    refine x_get C dX5_remembers_16 kfX5_117 hr.o rfl ?_
    refine x_icmp_ge (tgt := 76) C dX5_remembers_19 (by decide) (fun c19 => absurd c19 (by omega)) (fun c19 => ?_)
    refine x_aload_n C dX5_remembers_22 rfl ?_
    refine x_get C dX5_remembers_23 kfX5_68 hr.o rfl ?_
    refine x_iload_n C dX5_remembers_26 rfl ?_
    refine x_aload_n C dX5_remembers_27 rfl ?_
    refine x_get C dX5_remembers_28 kfX5_38 hr.o rfl ?_
    refine x_iload_n C dX5_remembers_31 rfl ?_
    refine x_iald C dX5_remembers_32 hr.a7 (by omega) (by rw [hr.l7]; omega) ?_
    rw [e7]
    refine x_iast C dX5_remembers_33 hr.a17 (by omega) (by rw [hr.l17]; omega) ?_
    refine ab_M_M17 hr hf (by rw [List.length_set]; exact hr.l17) (fun w hr hf => ?_)
    refine x_aload_n C dX5_remembers_34 rfl ?_
    refine x_get C dX5_remembers_35 kfX5_71 hr.o rfl ?_
    refine x_iload_n C dX5_remembers_38 rfl ?_
    refine x_aload_n C dX5_remembers_39 rfl ?_
    refine x_get C dX5_remembers_40 kfX5_44 hr.o rfl ?_
    refine x_iload_n C dX5_remembers_43 rfl ?_
    refine x_iald C dX5_remembers_44 hr.a9 (by omega) (by rw [hr.l9]; omega) ?_
    rw [e9]
    refine x_iast C dX5_remembers_45 hr.a18 (by omega) (by rw [hr.l18]; omega) ?_
    refine ab_M_M18 hr hf (by rw [List.length_set]; exact hr.l18) (fun w hr hf => ?_)
    refine x_aload_n C dX5_remembers_46 rfl ?_
    refine x_get C dX5_remembers_47 kfX5_74 hr.o rfl ?_
    refine x_iload_n C dX5_remembers_50 rfl ?_
    refine x_aload_n C dX5_remembers_51 rfl ?_
    refine x_get C dX5_remembers_52 kfX5_47 hr.o rfl ?_
    refine x_iload_n C dX5_remembers_55 rfl ?_
    refine x_iald C dX5_remembers_56 hr.a10 (by omega) (by rw [hr.l10]; omega) ?_
    rw [e10]
    refine x_iast C dX5_remembers_57 hr.a19 (by omega) (by rw [hr.l19]; omega) ?_
    refine ab_M_M19 hr hf (by rw [List.length_set]; exact hr.l19) (fun w hr hf => ?_)
    refine x_aload_n C dX5_remembers_58 rfl ?_
    refine x_get C dX5_remembers_59 kfX5_77 hr.o rfl ?_
    refine x_iload_n C dX5_remembers_62 rfl ?_
    refine x_aload_n C dX5_remembers_63 rfl ?_
    refine x_get C dX5_remembers_64 kfX5_50 hr.o rfl ?_
    refine x_iload_n C dX5_remembers_67 rfl ?_
    refine x_iald C dX5_remembers_68 hr.a11 (by omega) (by rw [hr.l11]; omega) ?_
    rw [e11]
    refine x_iast C dX5_remembers_69 hr.a20 (by omega) (by rw [hr.l20]; omega) ?_
    refine ab_M_M20 hr hf (by rw [List.length_set]; exact hr.l20) (fun w hr hf => ?_)
    refine s_inc2_1 C dX5_remembers_70 rfl (by first | (unfold iR; omega) | exact ⟨by omega, by omega⟩) ?_
    refine x_goto (tgt := 14) C dX5_remembers_73 (by decide) ?_
    rw [set_mid _ x17 _ j17 (by simp; omega), set_mid _ x18 _ j18 (by simp; omega), set_mid _ x19 _ j19 (by simp; omega), set_mid _ x20 _ j20 (by simp; omega)] at hr
    refine ih (P ++ [q]) (k + 1) j17 j18 j19 j20 w (by rw [hP]; simp) (by simp; omega) ?_ hf
    simpa using hr

set_option maxHeartbeats 1000000 in
set_option maxRecDepth 100000 in
theorem c_X5_remembers (l : Launch) {w : mW} {h : Nat} {F : mF} {um sm wp wr ac sz ra rn : Int} {M14 M15 M16 M17 M18 M19 M20 M21 M22 M23 : List Int} (hN : isN w h F um sm wp wr ac sz ra rn M14 M15 M16 M17 M18 M19 M20 M21 M22 M23) (hW : wfF F) : Cv l yX5_remembers cX5_remembers 2 4 [vr h] w (fun w' => ∃ j17 j18 j19 j20 : List Int, isN w' h F um sm (scr F).1.length (scr F).2.length 1 sz ra rn M14 M15 M16 ((scr F).1.map (fun q => q.1) ++ j17) ((scr F).1.map (fun q => q.2.2.1) ++ j18) ((scr F).1.map (fun q => q.2.2.2.1) ++ j19) ((scr F).1.map (fun q => q.2.2.2.2) ++ j20) M21 M22 M23 ∧ frR w w' h (h + 23)) := by
  refine Cv.of (ml := [some (vr h), none]) kyX5_remembers rfl (Nat.le_of_ble_eq_true rfl) rfl ?_
  intro t n C hQ
  have hN2 := hN
  obtain ⟨j1, j2, j3, j4, j5, j6, pi, lr, lc, M7, M8, M9, M10, M11, M12, M13, hr⟩ := hN
  refine x_aload_n C dX5_remembers_0 rfl ?_
  refine y_v0 C dX5_remembers_1 kyX5_setScreen knX5_setScreen kmX5_150 hr.o (c_X5_setScreen l hN2 hW) (by decide) (Nat.zero_le _) (Nat.zero_le _) (Nat.le_of_ble_eq_true rfl) (fun w1 q1 => ?_)
  obtain ⟨hNs, hf⟩ := q1
  obtain ⟨j1, j2, j3, j4, j5, j6, J7, J8, J9, J10, J11, J12, J13, hr⟩ := id hNs
  have l12 := hr.l12
  simp only [List.length_append, List.length_map] at l12
  refine x_aload_n C dX5_remembers_4 rfl ?_
  refine x_aload_n C dX5_remembers_5 rfl ?_
  refine x_get C dX5_remembers_6 kfX5_117 hr.o rfl ?_
  refine x_put C dX5_remembers_9 kfX5_165 kw_5_28 rfl rfl hr.o (Nat.le_of_ble_eq_true rfl) ?_
  refine ab_M_wp hr hf (fun w hr hf => ?_)
  refine x_iconst C dX5_remembers_12 ⟨by decide, by decide⟩ ?_
  refine s_ist2_1 C dX5_remembers_13 rfl ?_
  refine lp_X5_remembers (S := scr F) C (fun k j17 j18 j19 j20 w hr hf => ?_) (scr F).1 [] 0 M17 M18 M19 M20 _ rfl rfl hr hf
  refine x_aload_n C dX5_remembers_76 rfl ?_
  refine x_aload_n C dX5_remembers_77 rfl ?_
  refine x_get C dX5_remembers_78 kfX5_144 hr.o rfl ?_
  refine x_iconst C dX5_remembers_81 ⟨by decide, by decide⟩ ?_
  refine x_iadd C dX5_remembers_82 (by first | (unfold iR; omega) | exact ⟨by omega, by omega⟩) ?_
  refine x_put C dX5_remembers_83 kfX5_168 kw_5_33 rfl rfl hr.o (Nat.le_of_ble_eq_true rfl) ?_
  refine ab_M_wr hr hf (fun w hr hf => ?_)
  refine x_aload_n C dX5_remembers_86 rfl ?_
  refine x_iconst C dX5_remembers_87 ⟨by decide, by decide⟩ ?_
  refine x_put C dX5_remembers_88 kfX5_171 kw_5_34 (nar_z (by first | exact Or.inl rfl | exact Or.inr rfl | assumption | omega)).1 (nar_z (by first | exact Or.inl rfl | exact Or.inr rfl | assumption | omega)).2 hr.o (Nat.le_of_ble_eq_true rfl) ?_
  refine ab_M_ac hr hf (fun w hr hf => ?_)
  refine x_vret C hQ dX5_remembers_91 (Nat.le_refl _) (Nat.le_refl _) ?_
  rw [show ((scr F).2.length : Int) - 1 + 1 = (scr F).2.length by omega] at hr
  exact ⟨rfl, rfl, j17, j18, j19, j20, ⟨j1, j2, j3, j4, j5, j6, _, _, _, _, _, _, _, _, _, _, hr⟩, hf⟩

def nts (L : List Int) (U : List mF) : Prop := ∀ (i : Nat) (G : mF), U[i]? = some G → noteF L (68 * i) G
theorem lenF {F : mF} (h : wfF F) : F.1.1.length ≤ 40 ∧ F.1.2.1.length ≤ 4 ∧ F.1.2.2.length ≤ 4 := ⟨h.1, h.2.2.1, h.2.2.2.2.2.1⟩
theorem nts_snoc {L L' : List Int} {U : List mF} {F : mF} (h : nts L U) (hU : ∀ G ∈ U, wfF G) (hF : noteF L' (68 * U.length) F) (he : ∀ i, i < 68 * U.length ∨ 68 * U.length + 67 ≤ i → L'.getD i 0 = L.getD i 0) : nts L' (U ++ [F]) := by
  intro i G hG
  by_cases hi : i < U.length
  · rw [List.getElem?_append_left hi] at hG
    exact (h i G hG).eqv (lenF (hU G (List.mem_of_getElem? hG))) (fun k hk => he _ (by omega))
  · have h1 := (List.getElem?_eq_some_iff.mp hG).1
    simp at h1
    have h2 : i = U.length := by omega
    subst h2
    rw [List.getElem?_append_right (by omega), Nat.sub_self] at hG
    cases hG
    exact hF
theorem nts_tail {L L' : List Int} {U : List mF} (h : nts L U) (hU : ∀ G ∈ U, wfF G) (hl : U.length ≤ 8) (he : ∀ j, j < 476 → L'.getD j 0 = L.getD (j + 68) 0) : nts L' U.tail := by
  intro i G hG
  have h1 : U[i + 1]? = some G := by
    cases U with
    | nil => simp at hG
    | cons a U => simpa using hG
  have h2 := (List.getElem?_eq_some_iff.mp h1).1
  exact (h (i + 1) G h1).eqv (lenF (hU G (List.mem_of_getElem? h1))) (fun k hk => by rw [he _ (by omega)]; congr 1; omega)
theorem nts_sub {L : List Int} {U0 U1 : List mF} (h : nts L (U0 ++ U1)) : nts L U0 := fun i G hG => h i G (by rw [List.getElem?_append_left (List.getElem?_eq_some_iff.mp hG).1]; exact hG)

set_option maxHeartbeats 1000000 in
set_option maxRecDepth 100000 in
theorem lp_X5_notes {t : TX} {l : Launch} {n0 : Nat} {w0 : mW} {h : Nat} {mn fc hc mo wi nd tb pi lr lc um sm wp wr ac sz ra rn : Int} {M1 M2 M3 M4 M5 M6 M7 M8 M9 M10 M11 M12 M13 M15 M16 M17 M18 M19 M20 M21 M22 M23 : List Int} {L : List Int} (C : Cb t l cX5_notes RX5 2 none 5 0 0)  (kx : ∀ (k : Int) (M14 : List Int) (w : mW), rM w h mn fc hc mo wi nd tb pi lr lc um sm wp wr ac sz ra rn M1 M2 M3 M4 M5 M6 M7 M8 M9 M10 M11 M12 M13 M14 M15 M16 M17 M18 M19 M20 M21 M22 M23 → frR w0 w h (h + 23) → (∀ j, j < 476 → M14.getD j 0 = L.getD (j + 68) 0) → J t 0 0 43 [some (vr h), some (vi k)] [] n0 w) : ∀ (m i : Nat) (k : Int) (M14 : List Int) (w : mW), i + m = 476 → k = i → rM w h mn fc hc mo wi nd tb pi lr lc um sm wp wr ac sz ra rn M1 M2 M3 M4 M5 M6 M7 M8 M9 M10 M11 M12 M13 M14 M15 M16 M17 M18 M19 M20 M21 M22 M23 → frR w0 w h (h + 23) → (∀ j, j < i → M14.getD j 0 = L.getD (j + 68) 0) → (∀ j, i ≤ j → M14.getD j 0 = L.getD j 0) → J t 0 0 15 [some (vr h), some (vi k)] [] n0 w := by
  intro m
  induction m with
  | zero =>
    intro i k M14 w hm hk hr hf h1 h2
    refine x_iload_n C dX5_notes_15 rfl ?_
    refine x_sipush C dX5_notes_16 ⟨by decide, by decide⟩ ?_
    refine x_icmp_ge (tgt := 43) C dX5_notes_19 (by decide) (fun c19 => ?_) (fun c19 => absurd c19 (by omega))
    exact kx k M14 w hr hf (fun j hj => h1 j (by omega))
  | succ m ih =>
    intro i k M14 w hm hk hr hf h1 h2
    have l14 := hr.l14
    refine x_iload_n C dX5_notes_15 rfl ?_
    refine x_sipush C dX5_notes_16 ⟨by decide, by decide⟩ ?_
    refine x_icmp_ge (tgt := 43) C dX5_notes_19 (by decide) (fun c19 => absurd c19 (by omega)) (fun c19 => ?_)
    refine x_aload_n C dX5_notes_22 rfl ?_
    refine x_get C dX5_notes_23 kfX5_59 hr.o rfl ?_
    refine x_iload_n C dX5_notes_26 rfl ?_
    refine x_aload_n C dX5_notes_27 rfl ?_
    refine x_get C dX5_notes_28 kfX5_59 hr.o rfl ?_
    refine x_iload_n C dX5_notes_31 rfl ?_
    refine x_bipush C dX5_notes_32 ⟨by decide, by decide⟩ ?_
    refine x_iadd C dX5_notes_34 (by first | (unfold iR; omega) | exact ⟨by omega, by omega⟩) ?_
    refine x_iald C dX5_notes_35 hr.a14 (by omega) (by rw [hr.l14]; omega) ?_
    refine x_iast C dX5_notes_36 hr.a14 (by omega) (by rw [hr.l14]; omega) ?_
    refine ab_M_M14 hr hf (by rw [List.length_set]; exact hr.l14) (fun w hr hf => ?_)
    refine s_inc2_1 C dX5_notes_37 rfl (by first | (unfold iR; omega) | exact ⟨by omega, by omega⟩) ?_
    refine x_goto (tgt := 15) C dX5_notes_40 (by decide) ?_
    rw [show (k + 68).toNat = i + 68 by omega, show k.toNat = i by omega] at hr
    refine ih (i + 1) (k + 1) _ w (by omega) (by omega) hr hf (fun j hj => ?_) (fun j hj => ?_)
    · by_cases h9 : j = i
      · subst h9
        rw [gd_setS _ (by omega)]
        exact h2 _ (by omega)
      · rw [gd_ne (by omega)]; exact h1 j (by omega)
    · rw [gd_ne (by omega)]; exact h2 j (by omega)

set_option maxHeartbeats 1000000 in
set_option maxRecDepth 100000 in
theorem lp_X5_notes_53 {t : TX} {l : Launch} {n0 : Nat} {w0 : mW} {h : Nat} {F : mF} {sm wp wr ac sz ra rn : Int} {M14 M15 M16 M17 M18 M19 M20 M21 M22 M23 : List Int} (C : Cb t l cX5_notes RX5 2 none 5 0 0) {Q : mW → Prop} (hQ : RQ t 0 0 (fun r n' w' => n' = n0 ∧ r = none ∧ Q w')) {x1 : Option mV} {w : mW} {U : List mF} (hN : isN w h F U.length sm wp wr ac sz ra rn M14 M15 M16 M17 M18 M19 M20 M21 M22 M23) (hf : frR w0 w h (h + 23)) (hW : wfF F) (hU : nts M14 U) (hwU : ∀ G ∈ U, wfF G) (hl : U.length < 8) (hfin : ∀ (M14 : List Int) (w : mW), isN w h F (U ++ [F]).length sm wp wr ac sz ra rn M14 M15 M16 M17 M18 M19 M20 M21 M22 M23 → frR w0 w h (h + 23) → nts M14 (U ++ [F]) → Q w) : J t 0 0 53 [some (vr h), x1] [] n0 w := by
  obtain ⟨j1, j2, j3, j4, j5, j6, pi, lr, lc, M7, M8, M9, M10, M11, M12, M13, hr⟩ := hN
  have l14 := hr.l14
  refine x_aload_n C dX5_notes_53 rfl ?_
  refine x_aload_n C dX5_notes_54 rfl ?_
  refine x_get C dX5_notes_55 kfX5_59 hr.o rfl ?_
  refine x_bipush C dX5_notes_58 ⟨by decide, by decide⟩ ?_
  refine x_aload_n C dX5_notes_60 rfl ?_
  refine x_get C dX5_notes_61 kfX5_178 hr.o rfl ?_
  refine x_imul C dX5_notes_64 (by first | (unfold iR; omega) | exact ⟨by omega, by omega⟩) ?_
  refine y_v2 C dX5_notes_65 kyX5_lays knX5_lays kmX5_181 hr.o (c_X5_lays l hr (ad := h + 14) (b := 68 * U.length) (B := 68 * (U.length : Int)) (by omega) (by omega) hr.a14 (by omega) (by omega)) (by decide) (Nat.zero_le _) (Nat.zero_le _) (Nat.le_of_ble_eq_true rfl) (fun w65 q65 => ?_)
  obtain ⟨L9, e9, n9, nr9, fr9⟩ := q65
  subst e9
  refine ab_M_M14 hr hf (by rw [n9]; exact hr.l14) (fun w65 hr hf => ?_)
  refine x_aload_n C dX5_notes_68 rfl ?_
  refine x_dup C dX5_notes_69 rfl ?_
  refine x_get C dX5_notes_70 kfX5_178 hr.o rfl ?_
  refine x_iconst C dX5_notes_73 ⟨by decide, by decide⟩ ?_
  refine x_iadd C dX5_notes_74 (by first | (unfold iR; omega) | exact ⟨by omega, by omega⟩) ?_
  refine x_put C dX5_notes_75 kfX5_178 kw_5_24 rfl rfl hr.o (Nat.le_of_ble_eq_true rfl) ?_
  refine ab_M_um hr hf (fun w hr hf => ?_)
  refine x_vret C hQ dX5_notes_78 (Nat.le_refl _) (Nat.le_refl _) ?_
  exact ⟨rfl, rfl, hfin L9 _ (by rw [show (((U ++ [F]).length : Nat) : Int) = (U.length : Int) + 1 by simp]; exact ⟨j1, j2, j3, j4, j5, j6, pi, lr, lc, M7, M8, M9, M10, M11, M12, M13, hr⟩) hf (nts_snoc hU hwU (nr9.f (lenF hW)) fr9)⟩

set_option maxHeartbeats 1000000 in
set_option maxRecDepth 100000 in
theorem c_X5_notes (l : Launch) {w : mW} {h : Nat} {F : mF} {U : List mF} {sm wp wr ac sz ra rn : Int} {M14 M15 M16 M17 M18 M19 M20 M21 M22 M23 : List Int} (hN : isN w h F U.length sm wp wr ac sz ra rn M14 M15 M16 M17 M18 M19 M20 M21 M22 M23) (hW : wfF F) (hU : nts M14 U) (hwU : ∀ G ∈ U, wfF G) (hl : U.length ≤ 8) : Cv l yX5_notes cX5_notes 2 5 [vr h] w (fun w' => ∃ M14 j17 j18 j19 j20 : List Int, isN w' h F (pushL 8 U F).length sm (scr F).1.length (scr F).2.length 1 sz ra rn M14 M15 M16 ((scr F).1.map (fun q => q.1) ++ j17) ((scr F).1.map (fun q => q.2.2.1) ++ j18) ((scr F).1.map (fun q => q.2.2.2.1) ++ j19) ((scr F).1.map (fun q => q.2.2.2.2) ++ j20) M21 M22 M23 ∧ frR w w' h (h + 23) ∧ nts M14 (pushL 8 U F)) := by
  refine Cv.of (ml := [some (vr h), none]) kyX5_notes rfl (Nat.le_of_ble_eq_true rfl) rfl ?_
  intro t n C hQ
  have hN2 := hN
  obtain ⟨j1, j2, j3, j4, j5, j6, pi, lr, lc, M7, M8, M9, M10, M11, M12, M13, hr⟩ := hN
  refine x_aload_n C dX5_notes_0 rfl ?_
  refine y_v0 C dX5_notes_1 kyX5_remembers knX5_remembers kmX5_175 hr.o (c_X5_remembers l hN2 hW) (by decide) (Nat.zero_le _) (Nat.zero_le _) (Nat.le_of_ble_eq_true rfl) (fun w1 q1 => ?_)
  obtain ⟨j17, j18, j19, j20, hN, hf⟩ := q1
  have hN3 := hN
  obtain ⟨j1, j2, j3, j4, j5, j6, pi, lr, lc, M7, M8, M9, M10, M11, M12, M13, hr⟩ := hN
  refine x_aload_n C dX5_notes_4 rfl ?_
  refine x_get C dX5_notes_5 kfX5_178 hr.o rfl ?_
  refine x_bipush C dX5_notes_8 ⟨by decide, by decide⟩ ?_
  refine x_icmp_ne (tgt := 53) C dX5_notes_10 (by decide) (fun c10 => ?_) (fun c10 => ?_)
  · have ep : pushL 8 U F = U ++ [F] := by unfold pushL; rw [if_pos (by omega)]
    exact lp_X5_notes_53 C hQ hN3 hf hW hU hwU (by omega) (fun M14 w9 h7 h8 h9 => ⟨M14, j17, j18, j19, j20, by rw [ep]; exact h7, h8, by rw [ep]; exact h9⟩)
  · refine x_iconst C dX5_notes_13 ⟨by decide, by decide⟩ ?_
    refine s_ist2_1 C dX5_notes_14 rfl ?_
    refine lp_X5_notes (L := M14) C (fun k L9 w hr hf hs9 => ?_) 476 0 0 M14 _ rfl rfl hr hf (fun j hj => absurd hj (by omega)) (fun j hj => rfl)
    refine x_aload_n C dX5_notes_43 rfl ?_
    refine x_dup C dX5_notes_44 rfl ?_
    refine x_get C dX5_notes_45 kfX5_178 hr.o rfl ?_
    refine x_iconst C dX5_notes_48 ⟨by decide, by decide⟩ ?_
    refine x_isub C dX5_notes_49 (by first | (unfold iR; omega) | exact ⟨by omega, by omega⟩) ?_
    refine x_put C dX5_notes_50 kfX5_178 kw_5_24 rfl rfl hr.o (Nat.le_of_ble_eq_true rfl) ?_
    refine ab_M_um hr hf (fun w hr hf => ?_)
    have ep : pushL 8 U F = U.tail ++ [F] := by unfold pushL; rw [if_neg (by omega)]
    have et : U.tail.length = U.length - 1 := List.length_tail
    rw [show (U.length : Int) - 1 = (U.tail.length : Nat) by omega] at hr
    exact lp_X5_notes_53 C hQ (U := U.tail) ⟨j1, j2, j3, j4, j5, j6, pi, lr, lc, M7, M8, M9, M10, M11, M12, M13, hr⟩ hf hW (nts_tail hU hwU hl hs9) (fun G hG => hwU G (List.mem_of_mem_tail hG)) (by omega) (fun M14 w9 h7 h8 h9 => ⟨M14, j17, j18, j19, j20, by rw [ep]; exact h7, h8, by rw [ep]; exact h9⟩)
