/-! ===== the law: its loop ===== -/
set_option maxHeartbeats 1000000 in
set_option maxRecDepth 100000 in
theorem law_loop {t : TX} {l : Launch} {b L n g : Nat} {xs : Nat → Int32} (C : Cb t l cL_law RL 4 (some .boolean) 8 140 3868) (hT : tL b L xs t) (hL : L ≤ 2048) : ∀ (m : Nat) (i : Int) (w : mW) (D : mD), 0 ≤ i → i ≤ 2052 → (L : Int) < i + 4 + 4 * m → isX w g D → isM w (g + 116) D → J t 140 3868 18 [some (vr b), some (vr g), some (vr (g + 116)), some (vi i)] [] n w := by
  intro m
  induction m with
  | zero =>
    intro i w D hi hi2 hm hX hM
    refine x_iload_n C dL_law_18 rfl ?_
    refine x_aload_n C dL_law_19 rfl ?_
    refine x_slen C hT dL_law_20 hL ?_
    refine x_iconst C dL_law_21 ⟨by decide, by decide⟩ ?_
    refine x_isub C dL_law_22 (by unfold iR; omega) ?_
    refine x_icmp_gt (tgt := 944) C dL_law_23 (by decide) (fun c23 => ?_) (fun c23 => absurd c23 (by omega))
    refine x_iconst C dL_law_944 ⟨by decide, by decide⟩ ?_
    exact x_lret C hT dL_law_945 (Nat.le_of_ble_eq_true rfl) (Nat.le_of_ble_eq_true rfl)
  | succ m ih =>
    intro i w D hi hi2 hm hX hM
    refine x_iload_n C dL_law_18 rfl ?_
    refine x_aload_n C dL_law_19 rfl ?_
    refine x_slen C hT dL_law_20 hL ?_
    refine x_iconst C dL_law_21 ⟨by decide, by decide⟩ ?_
    refine x_isub C dL_law_22 (by unfold iR; omega) ?_
    refine x_icmp_gt (tgt := 944) C dL_law_23 (by decide) (fun c23 => ?_) (fun c23 => ?_)
    · refine x_iconst C dL_law_944 ⟨by decide, by decide⟩ ?_
      exact x_lret C hT dL_law_945 (Nat.le_of_ble_eq_true rfl) (Nat.le_of_ble_eq_true rfl)
    refine x_aload_n C dL_law_26 rfl ?_
    refine x_iload_n C dL_law_27 rfl ?_
    refine x_sld C hT dL_law_28 (by omega) ?_
    refine x_bipush C dL_law_29 ⟨by decide, by decide⟩ ?_
    refine x_and31 C dL_law_31 (fun z hz0 hz1 => ?_)
    have kx : ∀ (w' : mW) (D' : mD), isX w' g D' → isM w' (g + 116) D' → J t 140 3868 938 [some (vr b), some (vr g), some (vr (g + 116)), some (vi i)] [] n w' := fun w' D' hX' hM' => by
      refine s_inc4_3 C dL_law_938 rfl (by unfold iR; omega) ?_
      refine x_goto (tgt := 18) C dL_law_941 (by decide) ?_
      exact ih (i + 4) w' D' (by omega) (by omega) (by omega) hX' hM'
    rcases (show z = 0 ∨ z = 1 ∨ z = 2 ∨ z = 3 ∨ z = 4 ∨ z = 5 ∨ z = 6 ∨ z = 7 ∨ z = 8 ∨ z = 9 ∨ z = 10 ∨ z = 11 ∨ z = 12 ∨ z = 13 ∨ z = 14 ∨ z = 15 ∨ z = 16 ∨ z = 17 ∨ z = 18 ∨ z = 19 ∨ z = 20 ∨ z = 21 ∨ z = 22 ∨ z = 23 ∨ z = 24 ∨ z = 25 ∨ z = 26 ∨ z = 27 ∨ z = 28 ∨ z = 29 ∨ (z < 0 ∨ 29 < z) by omega) with h9 | h9 | h9 | h9 | h9 | h9 | h9 | h9 | h9 | h9 | h9 | h9 | h9 | h9 | h9 | h9 | h9 | h9 | h9 | h9 | h9 | h9 | h9 | h9 | h9 | h9 | h9 | h9 | h9 | h9 | h9
    · exact x_tabIn (tgt := 168) C dL_law_32 h9 (by decide) (by decide) rfl (by decide) (cs_0 C hT hX hM (by omega) hL kx)
    · exact x_tabIn (tgt := 191) C dL_law_32 h9 (by decide) (by decide) rfl (by decide) (cs_1 C hT hX hM (by omega) hL kx)
    · exact x_tabIn (tgt := 204) C dL_law_32 h9 (by decide) (by decide) rfl (by decide) (cs_2 C hT hX hM (by omega) hL kx)
    · exact x_tabIn (tgt := 217) C dL_law_32 h9 (by decide) (by decide) rfl (by decide) (cs_3 C hT hX hM (by omega) hL kx)
    · exact x_tabIn (tgt := 230) C dL_law_32 h9 (by decide) (by decide) rfl (by decide) (cs_4 C hT hX hM (by omega) hL kx)
    · exact x_tabIn (tgt := 253) C dL_law_32 h9 (by decide) (by decide) rfl (by decide) (cs_5 C hT hX hM (by omega) hL kx)
    · exact x_tabIn (tgt := 286) C dL_law_32 h9 (by decide) (by decide) rfl (by decide) (cs_6 C hT hX hM (by omega) hL kx)
    · exact x_tabIn (tgt := 319) C dL_law_32 h9 (by decide) (by decide) rfl (by decide) (cs_7 C hT hX hM (by omega) hL kx)
    · exact x_tabIn (tgt := 352) C dL_law_32 h9 (by decide) (by decide) rfl (by decide) (cs_8 C hT hX hM (by omega) hL kx)
    · exact x_tabIn (tgt := 375) C dL_law_32 h9 (by decide) (by decide) rfl (by decide) (cs_9 C hT hX hM (by omega) hL kx)
    · exact x_tabIn (tgt := 398) C dL_law_32 h9 (by decide) (by decide) rfl (by decide) (cs_10 C hT hX hM (by omega) hL kx)
    · exact x_tabIn (tgt := 431) C dL_law_32 h9 (by decide) (by decide) rfl (by decide) (cs_11 C hT hX hM (by omega) hL kx)
    · exact x_tabIn (tgt := 454) C dL_law_32 h9 (by decide) (by decide) rfl (by decide) (cs_12 C hT hX hM (by omega) hL kx)
    · exact x_tabIn (tgt := 487) C dL_law_32 h9 (by decide) (by decide) rfl (by decide) (cs_13 C hT hX hM (by omega) hL kx)
    · exact x_tabIn (tgt := 510) C dL_law_32 h9 (by decide) (by decide) rfl (by decide) (cs_14 C hT hX hM (by omega) hL kx)
    · exact x_tabIn (tgt := 553) C dL_law_32 h9 (by decide) (by decide) rfl (by decide) (cs_15 C hT hX hM (by omega) hL kx)
    · exact x_tabIn (tgt := 576) C dL_law_32 h9 (by decide) (by decide) rfl (by decide) (cs_16 C hT hX hM (by omega) hL kx)
    · exact x_tabIn (tgt := 589) C dL_law_32 h9 (by decide) (by decide) rfl (by decide) (cs_17 C hT hX hM (by omega) hL kx)
    · exact x_tabIn (tgt := 622) C dL_law_32 h9 (by decide) (by decide) rfl (by decide) (cs_18 C hT hX hM (by omega) hL kx)
    · exact x_tabIn (tgt := 655) C dL_law_32 h9 (by decide) (by decide) rfl (by decide) (cs_19 C hT hX hM (by omega) hL kx)
    · exact x_tabIn (tgt := 688) C dL_law_32 h9 (by decide) (by decide) rfl (by decide) (cs_20 C hT hX hM (by omega) hL kx)
    · exact x_tabIn (tgt := 721) C dL_law_32 h9 (by decide) (by decide) rfl (by decide) (cs_21 C hT hX hM (by omega) hL kx)
    · exact x_tabIn (tgt := 754) C dL_law_32 h9 (by decide) (by decide) rfl (by decide) (cs_22 C hT hX hM (by omega) hL kx)
    · exact x_tabIn (tgt := 777) C dL_law_32 h9 (by decide) (by decide) rfl (by decide) (cs_23 C hT hX hM (by omega) hL kx)
    · exact x_tabIn (tgt := 800) C dL_law_32 h9 (by decide) (by decide) rfl (by decide) (cs_24 C hT hX hM (by omega) hL kx)
    · exact x_tabIn (tgt := 823) C dL_law_32 h9 (by decide) (by decide) rfl (by decide) (cs_25 C hT hX hM (by omega) hL kx)
    · exact x_tabIn (tgt := 846) C dL_law_32 h9 (by decide) (by decide) rfl (by decide) (cs_26 C hT hX hM (by omega) hL kx)
    · exact x_tabIn (tgt := 889) C dL_law_32 h9 (by decide) (by decide) rfl (by decide) (cs_27 C hT hX hM (by omega) hL kx)
    · exact x_tabIn (tgt := 902) C dL_law_32 h9 (by decide) (by decide) rfl (by decide) (cs_28 C hT hX hM (by omega) hL kx)
    · exact x_tabIn (tgt := 915) C dL_law_32 h9 (by decide) (by decide) rfl (by decide) (cs_29 C hT hX hM (by omega) hL kx)
    · exact x_tabOut (tgt := 938) C dL_law_32 h9 (by decide) (kx w D hX hM)
