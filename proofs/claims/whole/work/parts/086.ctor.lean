/-! ===== constructors ===== -/
set_option maxHeartbeats 1000000 in
set_option maxRecDepth 100000 in
theorem c_X2_init (l : Launch) {w : mW} {h n : Nat} (hn : n = h + 1) (h0 : w h = some (co 2 [vn, vi 0, vn, vn, vn, vi 0, vn, vn, vi 0, vi 0, vi 0, vi 0, vi 0])) : Ct l yX2_init cX2_init 1 none 1 6 60 [vr h] n w (fun r n' w' => r = none ∧ n' = h + 7 ∧ rS w' h 0 0 0 0 0 0 0 (List.replicate 40 0) (List.replicate 4 0) (List.replicate 4 0) (List.replicate 4 0) (List.replicate 4 0) (List.replicate 4 0) ∧ frR w w' h (h + 6)) := by
  subst hn
  refine Ct.ofN kyX2_init rfl (Nat.le_of_ble_eq_true rfl) ?_
  intro t C hQ hN
  show J t 0 0 0 [some (vr h)] [] (h + 1) w
  refine x_aload_n C dX2_init_0 rfl ?_
  refine x_objInit C dX2_init_1 gk_obj_X2 gk_obj1 gk_obj2 (by decide) (by decide) ?_
  refine x_aload_n C dX2_init_4 rfl ?_
  refine x_bipush C dX2_init_5 ⟨by decide, by decide⟩ ?_
  refine x_newI (N := 40) C dX2_init_7 gk_ar_int rfl (Nat.le_of_ble_eq_true rfl) (Nat.le_of_ble_eq_true rfl) (Nat.le_of_ble_eq_true rfl) ?_
  refine x_putF C hN dX2_init_9 kfX2_9 kx_2_0 (by decide +kernel) rfl rfl ((mu_ne _ _ (by omega)).trans (h0)) (Nat.le_of_ble_eq_true rfl) ?_
  refine x_aload_n C dX2_init_12 rfl ?_
  refine x_iconst C dX2_init_13 ⟨by decide, by decide⟩ ?_
  refine x_newI (N := 4) C dX2_init_14 gk_ar_int rfl (Nat.le_of_ble_eq_true rfl) (Nat.le_of_ble_eq_true rfl) (Nat.le_of_ble_eq_true rfl) ?_
  refine x_putF C hN dX2_init_16 kfX2_15 kx_2_2 (by decide +kernel) rfl rfl ((mu_ne _ _ (by omega)).trans (mu_eq _ _ _)) (Nat.le_of_ble_eq_true rfl) ?_
  refine x_aload_n C dX2_init_19 rfl ?_
  refine x_iconst C dX2_init_20 ⟨by decide, by decide⟩ ?_
  refine x_newI (N := 4) C dX2_init_21 gk_ar_int rfl (Nat.le_of_ble_eq_true rfl) (Nat.le_of_ble_eq_true rfl) (Nat.le_of_ble_eq_true rfl) ?_
  refine x_putF C hN dX2_init_23 kfX2_18 kx_2_3 (by decide +kernel) rfl rfl ((mu_ne _ _ (by omega)).trans (mu_eq _ _ _)) (Nat.le_of_ble_eq_true rfl) ?_
  refine x_aload_n C dX2_init_26 rfl ?_
  refine x_iconst C dX2_init_27 ⟨by decide, by decide⟩ ?_
  refine x_newZ (N := 4) C dX2_init_28 gk_ar_boolean rfl (Nat.le_of_ble_eq_true rfl) (Nat.le_of_ble_eq_true rfl) (Nat.le_of_ble_eq_true rfl) ?_
  refine x_putF C hN dX2_init_30 kfX2_21 kx_2_4 (by decide +kernel) rfl rfl ((mu_ne _ _ (by omega)).trans (mu_eq _ _ _)) (Nat.le_of_ble_eq_true rfl) ?_
  refine x_aload_n C dX2_init_33 rfl ?_
  refine x_iconst C dX2_init_34 ⟨by decide, by decide⟩ ?_
  refine x_newI (N := 4) C dX2_init_35 gk_ar_int rfl (Nat.le_of_ble_eq_true rfl) (Nat.le_of_ble_eq_true rfl) (Nat.le_of_ble_eq_true rfl) ?_
  refine x_putF C hN dX2_init_37 kfX2_25 kx_2_6 (by decide +kernel) rfl rfl ((mu_ne _ _ (by omega)).trans (mu_eq _ _ _)) (Nat.le_of_ble_eq_true rfl) ?_
  refine x_aload_n C dX2_init_40 rfl ?_
  refine x_iconst C dX2_init_41 ⟨by decide, by decide⟩ ?_
  refine x_newI (N := 4) C dX2_init_42 gk_ar_int rfl (Nat.le_of_ble_eq_true rfl) (Nat.le_of_ble_eq_true rfl) (Nat.le_of_ble_eq_true rfl) ?_
  refine x_putF C hN dX2_init_44 kfX2_28 kx_2_7 (by decide +kernel) rfl rfl ((mu_ne _ _ (by omega)).trans (mu_eq _ _ _)) (Nat.le_of_ble_eq_true rfl) ?_
  refine x_vret C hQ dX2_init_47 (Nat.le_refl _) (Nat.le_refl _) ?_
  refine ⟨rfl, rfl, ⟨by simp [mu], by simp [mu], by simp [mu], by simp [mu], by simp [mu], by simp [mu], by simp [mu], by simp, by simp, by simp, by simp, by simp, by simp⟩, fun a ha => ?_⟩
  simp only [mu]
  repeat rw [if_neg (by omega)]

set_option maxHeartbeats 1000000 in
set_option maxRecDepth 100000 in
theorem c_X1_init (l : Launch) {w : mW} {h n : Nat} (hn : n = h + 1) (h0 : w h = some (co 1 [vn, vn, vn, vn, vn, vi 0, vn, vn, vi 0, vi 0])) : Ct l yX1_init cX1_init 1 none 1 7 310 [vr h] n w (fun r n' w' => r = none ∧ n' = h + 8 ∧ rC w' h 0 0 0 (List.replicate 44 0) (List.replicate 44 0) (List.replicate 44 0) (List.replicate 44 0) (List.replicate 44 0) (List.replicate 45 0) (List.replicate 45 0) ∧ frR w w' h (h + 7)) := by
  subst hn
  refine Ct.ofN kyX1_init rfl (Nat.le_of_ble_eq_true rfl) ?_
  intro t C hQ hN
  show J t 0 0 0 [some (vr h)] [] (h + 1) w
  refine x_aload_n C dX1_init_0 rfl ?_
  refine x_objInit C dX1_init_1 gk_obj_X1 gk_obj1 gk_obj2 (by decide) (by decide) ?_
  refine x_aload_n C dX1_init_4 rfl ?_
  refine x_bipush C dX1_init_5 ⟨by decide, by decide⟩ ?_
  refine x_newI (N := 44) C dX1_init_7 gk_ar_int rfl (Nat.le_of_ble_eq_true rfl) (Nat.le_of_ble_eq_true rfl) (Nat.le_of_ble_eq_true rfl) ?_
  refine x_putF C hN dX1_init_9 kfX1_9 kx_1_0 (by decide +kernel) rfl rfl ((mu_ne _ _ (by omega)).trans (h0)) (Nat.le_of_ble_eq_true rfl) ?_
  refine x_aload_n C dX1_init_12 rfl ?_
  refine x_bipush C dX1_init_13 ⟨by decide, by decide⟩ ?_
  refine x_newI (N := 44) C dX1_init_15 gk_ar_int rfl (Nat.le_of_ble_eq_true rfl) (Nat.le_of_ble_eq_true rfl) (Nat.le_of_ble_eq_true rfl) ?_
  refine x_putF C hN dX1_init_17 kfX1_15 kx_1_1 (by decide +kernel) rfl rfl ((mu_ne _ _ (by omega)).trans (mu_eq _ _ _)) (Nat.le_of_ble_eq_true rfl) ?_
  refine x_aload_n C dX1_init_20 rfl ?_
  refine x_bipush C dX1_init_21 ⟨by decide, by decide⟩ ?_
  refine x_newI (N := 44) C dX1_init_23 gk_ar_int rfl (Nat.le_of_ble_eq_true rfl) (Nat.le_of_ble_eq_true rfl) (Nat.le_of_ble_eq_true rfl) ?_
  refine x_putF C hN dX1_init_25 kfX1_18 kx_1_2 (by decide +kernel) rfl rfl ((mu_ne _ _ (by omega)).trans (mu_eq _ _ _)) (Nat.le_of_ble_eq_true rfl) ?_
  refine x_aload_n C dX1_init_28 rfl ?_
  refine x_bipush C dX1_init_29 ⟨by decide, by decide⟩ ?_
  refine x_newI (N := 44) C dX1_init_31 gk_ar_int rfl (Nat.le_of_ble_eq_true rfl) (Nat.le_of_ble_eq_true rfl) (Nat.le_of_ble_eq_true rfl) ?_
  refine x_putF C hN dX1_init_33 kfX1_21 kx_1_3 (by decide +kernel) rfl rfl ((mu_ne _ _ (by omega)).trans (mu_eq _ _ _)) (Nat.le_of_ble_eq_true rfl) ?_
  refine x_aload_n C dX1_init_36 rfl ?_
  refine x_bipush C dX1_init_37 ⟨by decide, by decide⟩ ?_
  refine x_newI (N := 44) C dX1_init_39 gk_ar_int rfl (Nat.le_of_ble_eq_true rfl) (Nat.le_of_ble_eq_true rfl) (Nat.le_of_ble_eq_true rfl) ?_
  refine x_putF C hN dX1_init_41 kfX1_24 kx_1_4 (by decide +kernel) rfl rfl ((mu_ne _ _ (by omega)).trans (mu_eq _ _ _)) (Nat.le_of_ble_eq_true rfl) ?_
  refine x_aload_n C dX1_init_44 rfl ?_
  refine x_bipush C dX1_init_45 ⟨by decide, by decide⟩ ?_
  refine x_newI (N := 45) C dX1_init_47 gk_ar_int rfl (Nat.le_of_ble_eq_true rfl) (Nat.le_of_ble_eq_true rfl) (Nat.le_of_ble_eq_true rfl) ?_
  refine x_putF C hN dX1_init_49 kfX1_27 kx_1_6 (by decide +kernel) rfl rfl ((mu_ne _ _ (by omega)).trans (mu_eq _ _ _)) (Nat.le_of_ble_eq_true rfl) ?_
  refine x_aload_n C dX1_init_52 rfl ?_
  refine x_bipush C dX1_init_53 ⟨by decide, by decide⟩ ?_
  refine x_newZ (N := 45) C dX1_init_55 gk_ar_boolean rfl (Nat.le_of_ble_eq_true rfl) (Nat.le_of_ble_eq_true rfl) (Nat.le_of_ble_eq_true rfl) ?_
  refine x_putF C hN dX1_init_57 kfX1_30 kx_1_7 (by decide +kernel) rfl rfl ((mu_ne _ _ (by omega)).trans (mu_eq _ _ _)) (Nat.le_of_ble_eq_true rfl) ?_
  refine x_vret C hQ dX1_init_60 (Nat.le_refl _) (Nat.le_refl _) ?_
  refine ⟨rfl, rfl, ⟨by simp [mu], by simp [mu], by simp [mu], by simp [mu], by simp [mu], by simp [mu], by simp [mu], by simp [mu], by simp, by simp, by simp, by simp, by simp, by simp, by simp⟩, fun a ha => ?_⟩
  simp only [mu]
  repeat rw [if_neg (by omega)]

set_option maxHeartbeats 1000000 in
set_option maxRecDepth 100000 in
theorem c_X3_init (l : Launch) {w : mW} {h n : Nat} (hn : n = h + 1) (h0 : w h = some (co 3 [vn, vi 0, vn])) : Ct l yX3_init cX3_init 1 none 1 2 203 [vr h] n w (fun r n' w' => r = none ∧ n' = h + 3 ∧ rT w' h 0 (List.replicate 200 0) (List.replicate 3 0) ∧ frR w w' h (h + 2)) := by
  subst hn
  refine Ct.ofN kyX3_init rfl (Nat.le_of_ble_eq_true rfl) ?_
  intro t C hQ hN
  show J t 0 0 0 [some (vr h)] [] (h + 1) w
  refine x_aload_n C dX3_init_0 rfl ?_
  refine x_objInit C dX3_init_1 gk_obj_X3 gk_obj1 gk_obj2 (by decide) (by decide) ?_
  refine x_aload_n C dX3_init_4 rfl ?_
  refine x_sipush C dX3_init_5 ⟨by decide, by decide⟩ ?_
  refine x_newI (N := 200) C dX3_init_8 gk_ar_int rfl (Nat.le_of_ble_eq_true rfl) (Nat.le_of_ble_eq_true rfl) (Nat.le_of_ble_eq_true rfl) ?_
  refine x_putF C hN dX3_init_10 kfX3_9 kx_3_0 (by decide +kernel) rfl rfl ((mu_ne _ _ (by omega)).trans (h0)) (Nat.le_of_ble_eq_true rfl) ?_
  refine x_aload_n C dX3_init_13 rfl ?_
  refine x_iconst C dX3_init_14 ⟨by decide, by decide⟩ ?_
  refine x_newI (N := 3) C dX3_init_15 gk_ar_int rfl (Nat.le_of_ble_eq_true rfl) (Nat.le_of_ble_eq_true rfl) (Nat.le_of_ble_eq_true rfl) ?_
  refine x_putF C hN dX3_init_17 kfX3_15 kx_3_2 (by decide +kernel) rfl rfl ((mu_ne _ _ (by omega)).trans (mu_eq _ _ _)) (Nat.le_of_ble_eq_true rfl) ?_
  refine x_vret C hQ dX3_init_20 (Nat.le_refl _) (Nat.le_refl _) ?_
  refine ⟨rfl, rfl, ⟨by simp [mu], by simp [mu], by simp [mu], by simp, by simp⟩, fun a ha => ?_⟩
  simp only [mu]
  repeat rw [if_neg (by omega)]

theorem dfX0 : ∀ j, j < 2 → defaultValue (tyX0 j) = vp_V (([vn, vi 0] : List mV).map mT) j := by
  intro j hj
  match j, hj with
  | 0, _ => rfl
  | 1, _ => rfl
  | (j + 2), h => exact absurd h (by omega)

theorem dkX0 : ∀ v ∈ ([vn, vi 0] : List mV), vOk v := by
  simp [vOk, iR]

theorem dfX1 : ∀ j, j < 10 → defaultValue (tyX1 j) = vp_V (([vn, vn, vn, vn, vn, vi 0, vn, vn, vi 0, vi 0] : List mV).map mT) j := by
  intro j hj
  match j, hj with
  | 0, _ => rfl
  | 1, _ => rfl
  | 2, _ => rfl
  | 3, _ => rfl
  | 4, _ => rfl
  | 5, _ => rfl
  | 6, _ => rfl
  | 7, _ => rfl
  | 8, _ => rfl
  | 9, _ => rfl
  | (j + 10), h => exact absurd h (by omega)

theorem dkX1 : ∀ v ∈ ([vn, vn, vn, vn, vn, vi 0, vn, vn, vi 0, vi 0] : List mV), vOk v := by
  simp [vOk, iR]

theorem dfX2 : ∀ j, j < 13 → defaultValue (tyX2 j) = vp_V (([vn, vi 0, vn, vn, vn, vi 0, vn, vn, vi 0, vi 0, vi 0, vi 0, vi 0] : List mV).map mT) j := by
  intro j hj
  match j, hj with
  | 0, _ => rfl
  | 1, _ => rfl
  | 2, _ => rfl
  | 3, _ => rfl
  | 4, _ => rfl
  | 5, _ => rfl
  | 6, _ => rfl
  | 7, _ => rfl
  | 8, _ => rfl
  | 9, _ => rfl
  | 10, _ => rfl
  | 11, _ => rfl
  | 12, _ => rfl
  | (j + 13), h => exact absurd h (by omega)

theorem dkX2 : ∀ v ∈ ([vn, vi 0, vn, vn, vn, vi 0, vn, vn, vi 0, vi 0, vi 0, vi 0, vi 0] : List mV), vOk v := by
  simp [vOk, iR]

theorem dfX3 : ∀ j, j < 3 → defaultValue (tyX3 j) = vp_V (([vn, vi 0, vn] : List mV).map mT) j := by
  intro j hj
  match j, hj with
  | 0, _ => rfl
  | 1, _ => rfl
  | 2, _ => rfl
  | (j + 3), h => exact absurd h (by omega)

theorem dkX3 : ∀ v ∈ ([vn, vi 0, vn] : List mV), vOk v := by
  simp [vOk, iR]

theorem dfX4 : ∀ j, j < 9 → defaultValue (tyX4 j) = vp_V (([vn, vn, vn, vn, vn, vn, vi 0, vn, vn] : List mV).map mT) j := by
  intro j hj
  match j, hj with
  | 0, _ => rfl
  | 1, _ => rfl
  | 2, _ => rfl
  | 3, _ => rfl
  | 4, _ => rfl
  | 5, _ => rfl
  | 6, _ => rfl
  | 7, _ => rfl
  | 8, _ => rfl
  | (j + 9), h => exact absurd h (by omega)

theorem dkX4 : ∀ v ∈ ([vn, vn, vn, vn, vn, vn, vi 0, vn, vn] : List mV), vOk v := by
  simp [vOk, iR]

theorem dfX5 : ∀ j, j < 41 → defaultValue (tyX5 j) = vp_V (([vi 0, vn, vi 0, vn, vn, vn, vi 0, vn, vn, vi 0, vi 0, vi 0, vi 0, vi 0, vn, vn, vn, vn, vn, vi 0, vi 0, vn, vn, vn, vi 0, vn, vi 0, vn, vi 0, vn, vn, vn, vn, vi 0, vi 0, vn, vn, vi 0, vi 0, vi 0, vn] : List mV).map mT) j := by
  intro j hj
  match j, hj with
  | 0, _ => rfl
  | 1, _ => rfl
  | 2, _ => rfl
  | 3, _ => rfl
  | 4, _ => rfl
  | 5, _ => rfl
  | 6, _ => rfl
  | 7, _ => rfl
  | 8, _ => rfl
  | 9, _ => rfl
  | 10, _ => rfl
  | 11, _ => rfl
  | 12, _ => rfl
  | 13, _ => rfl
  | 14, _ => rfl
  | 15, _ => rfl
  | 16, _ => rfl
  | 17, _ => rfl
  | 18, _ => rfl
  | 19, _ => rfl
  | 20, _ => rfl
  | 21, _ => rfl
  | 22, _ => rfl
  | 23, _ => rfl
  | 24, _ => rfl
  | 25, _ => rfl
  | 26, _ => rfl
  | 27, _ => rfl
  | 28, _ => rfl
  | 29, _ => rfl
  | 30, _ => rfl
  | 31, _ => rfl
  | 32, _ => rfl
  | 33, _ => rfl
  | 34, _ => rfl
  | 35, _ => rfl
  | 36, _ => rfl
  | 37, _ => rfl
  | 38, _ => rfl
  | 39, _ => rfl
  | 40, _ => rfl
  | (j + 41), h => exact absurd h (by omega)

theorem dkX5 : ∀ v ∈ ([vi 0, vn, vi 0, vn, vn, vn, vi 0, vn, vn, vi 0, vi 0, vi 0, vi 0, vi 0, vn, vn, vn, vn, vn, vi 0, vi 0, vn, vn, vn, vi 0, vn, vi 0, vn, vi 0, vn, vn, vn, vn, vi 0, vi 0, vn, vn, vi 0, vi 0, vi 0, vn] : List mV), vOk v := by
  simp [vOk, iR]

theorem x_hide {t : TX} {kc ks pc n : Nat} {ml : List (Option mV)} {st : List mV} {w : mW} (P : mW → Prop) (h : P w) (k : ∀ w', P w' → J t kc ks pc ml st n w') : J t kc ks pc ml st n w := k w h
theorem set_rng (h i m : Nat) (f : Nat → Nat) : ((List.range i).map (fun k => some (f k)) ++ List.replicate (m + 1) none).set i (some (f i)) = (List.range (i + 1)).map (fun k => some (f k)) ++ List.replicate m none := by
  rw [List.set_append, if_neg (by simp)]
  simp [List.range_succ, List.replicate_succ]

set_option maxHeartbeats 1000000 in
set_option maxRecDepth 100000 in
theorem lp_X0_init {t : TX} {l : Launch} {N : Nat} {w0 : mW} {h : Nat} (hN1 : N ≤ 100) (C : Cb t l cX0_init RX0 3 none 2 (1 + 7 * N) (N + 73 * N)) (hQ : RQ t (1 + 7 * N) (N + 73 * N) (fun r n' w' => r = none ∧ n' = h + 2 + 7 * N ∧ isPi w' h N [] ∧ frR w0 w' h (h + 1 + 7 * N))) : ∀ (m i : Nat) (w : mW), i + m = N → w h = some (co 0 [vr (h + 1), vi 0]) → w (h + 1) = some (cq ((List.range i).map (fun k => some (h + 2 + 7 * k)) ++ List.replicate m none)) → (∀ k, k < i → anySh w (h + 2 + 7 * k)) → frR w0 w h (h + 1 + 7 * N) → J t (1 + 7 * i) (N + 73 * i) 18 [some (vr h), some (vi (N : Int)), some (vi (i : Int))] [] (h + 2 + 7 * i) w := by
  intro m
  induction m with
  | zero =>
    intro i w hi h0 h1 hA hf
    have hiN : i = N := by omega
    subst hiN
    refine x_iload_n C dX0_init_18 rfl ?_
    refine x_aload_n C dX0_init_19 rfl ?_
    refine x_get C dX0_init_20 kfX0_15 h0 rfl ?_
    refine x_alenQ C dX0_init_23 h1 (by simp; omega) ?_
    refine x_icmp_ge (tgt := 46) C dX0_init_24 (by decide) (fun c24 => ?_) (fun c24 => absurd c24 (by simp))
    refine x_vret C hQ dX0_init_46 (Nat.le_refl _) (Nat.le_refl _) ?_
    refine ⟨rfl, rfl, ⟨(List.range i).map (fun k => h + 2 + 7 * k), ⟨by simp, ?_, fun x hx => ?_⟩, h0, ?_, by simp, fun x hx => ?_, fun j F hF => by simp at hF⟩, hf⟩
    · rw [List.nodup_iff_pairwise_ne, List.pairwise_map]
      exact List.pairwise_lt_range.imp (fun {a b} hab => by omega)
    · obtain ⟨k, hk, rfl⟩ := List.mem_map.mp hx
      exact ⟨k, List.mem_range.mp hk, rfl⟩
    · rw [h1, List.replicate_zero, List.append_nil, List.map_map]
      rfl
    · obtain ⟨k, hk, rfl⟩ := List.mem_map.mp hx
      exact hA k (List.mem_range.mp hk)
  | succ m ih =>
    intro i w hi h0 h1 hA hf
    refine x_iload_n C dX0_init_18 rfl ?_
    refine x_aload_n C dX0_init_19 rfl ?_
    refine x_get C dX0_init_20 kfX0_15 h0 rfl ?_
    refine x_alenQ C dX0_init_23 h1 (by simp; omega) ?_
    refine x_icmp_ge (tgt := 46) C dX0_init_24 (by decide) (fun c24 => absurd c24 (by simp; omega)) (fun c24 => ?_)
    refine x_aload_n C dX0_init_27 rfl ?_
    refine x_get C dX0_init_28 kfX0_15 h0 rfl ?_
    refine x_iload_n C dX0_init_31 rfl ?_
    refine x_new C dX0_init_32 (ci := 2) (N := 13) (Cn := RX2) (T := TX2) (ty := tyX2) (fs := [vn, vi 0, vn, vn, vn, vi 0, vn, vn, vi 0, vi 0, vi 0, vi 0, vi 0]) rfl gX2_in tyX2_ok gk_cl_X0_13 gk_in_X2 gk_ini_X2 dfX2 dkX2 (by omega) (by omega) ?_
    refine x_dup C dX0_init_35 rfl ?_
    refine x_callI C dX0_init_36 kyX2_init rfl kiX2_init kmX0_21 (c_X2_init l rfl (mu_eq _ _ _)) (As := []) rfl (by decide) (by omega) (by omega) (Nat.le_of_ble_eq_true rfl) rfl ?_
    rintro r n' w' ⟨rfl, rfl, hS, hf2⟩
    have g1 : w' (h + 1) = some (cq ((List.range i).map (fun k => some (h + 2 + 7 * k)) ++ List.replicate (m + 1) none)) := (hf2 _ (by omega)).trans ((mu_ne _ _ (by omega)).trans h1)
    have g0 : w' h = some (co 0 [vr (h + 1), vi 0]) := (hf2 _ (by omega)).trans ((mu_ne _ _ (by omega)).trans h0)
    refine x_aast C dX0_init_39 g1 (by omega) (by simp; omega) hS.o ?_
    rw [Int.toNat_natCast, set_rng h i m (fun k => h + 2 + 7 * k)]
    refine s_inc3_2 C dX0_init_40 rfl (by unfold iR; omega) ?_
    refine x_goto (tgt := 18) C dX0_init_43 (by decide) ?_
    have hF : frR w (mu w' (h + 1) (cq ((List.range (i + 1)).map (fun k => some (h + 2 + 7 * k)) ++ List.replicate m none))) (h + 1) (h + 2 + 7 * i + 6) := fun a ha => by
      rw [mu_ne _ _ (by omega), hf2 a (by omega), mu_ne _ _ (by omega)]
    rw [show 1 + 7 * i + 1 + 6 = 1 + 7 * (i + 1) by omega, show N + 73 * i + 13 + 60 = N + 73 * (i + 1) by omega, show h + 2 + 7 * i + 7 = h + 2 + 7 * (i + 1) by omega, show (i : Int) + 1 = ((i + 1 : Nat) : Int) by omega]
    refine ih (i + 1) _ (by omega) ((mu_ne _ _ (by omega)).trans g0) (mu_eq _ _ _) (fun k hk => ?_) (hf.tr (hF.wd (by omega) (by omega)))
    by_cases hk2 : k = i
    · subst hk2
      have hF2 : frR w' (mu w' (h + 1) (cq ((List.range (k + 1)).map (fun k => some (h + 2 + 7 * k)) ++ List.replicate m none))) (h + 1) (h + 1) := fun a ha => mu_ne _ _ (by omega)
      exact anySh.fr ⟨_, _, _, _, _, _, _, _, _, _, _, _, _, hS⟩ hF2 (by omega)
    · have h5 := hA k (by omega)
      obtain ⟨_, _, _, _, _, _, _, _, _, _, _, _, _, h6⟩ := h5
      have hF3 : frR w (mu w' (h + 1) (cq ((List.range (i + 1)).map (fun k => some (h + 2 + 7 * k)) ++ List.replicate m none))) (h + 1) (h + 1) ∨ True := Or.inr trivial
      have e : ∀ a, h + 2 + 7 * k ≤ a → a ≤ h + 2 + 7 * k + 6 → mu w' (h + 1) (cq ((List.range (i + 1)).map (fun k => some (h + 2 + 7 * k)) ++ List.replicate m none)) a = w a := fun a h7 h8 => by
        rw [mu_ne _ _ (by omega), hf2 a (by omega), mu_ne _ _ (by omega)]
      obtain ⟨a0, a1, a2, a3, a4, a5, a6, a7⟩ := h6
      exact ⟨_, _, _, _, _, _, _, _, _, _, _, _, _, (e _ (by omega) (by omega)).trans a0, (e _ (by omega) (by omega)).trans a1, (e _ (by omega) (by omega)).trans a2, (e _ (by omega) (by omega)).trans a3, (e _ (by omega) (by omega)).trans a4, (e _ (by omega) (by omega)).trans a5, (e _ (by omega) (by omega)).trans a6, a7⟩

set_option maxHeartbeats 1000000 in
set_option maxRecDepth 100000 in
theorem c_X0_init (l : Launch) {w : mW} {h n N : Nat} (hn : n = h + 1) (hN1 : N ≤ 100) (h0 : w h = some (co 0 [vn, vi 0])) : Ct l yX0_init cX0_init 3 none 2 (1 + 7 * N) (N + 73 * N) [vr h, vi (N : Int)] n w (fun r n' w' => r = none ∧ n' = h + 2 + 7 * N ∧ isPi w' h N [] ∧ frR w w' h (h + 1 + 7 * N)) := by
  subst hn
  refine Ct.ofN kyX0_init rfl (Nat.le_of_ble_eq_true rfl) ?_
  intro t C hQ hN
  show J t 0 0 0 [some (vr h), some (vi (N : Int)), none] [] (h + 1) w
  refine x_aload_n C dX0_init_0 rfl ?_
  refine x_objInit C dX0_init_1 gk_obj_X0 gk_obj1 gk_obj2 (by decide) (by decide) ?_
  refine x_aload_n C dX0_init_4 rfl ?_
  refine x_iconst C dX0_init_5 ⟨by decide, by decide⟩ ?_
  refine x_iload_n C dX0_init_6 rfl ?_
  refine x_max C dX0_init_7 gk_max_X0 gk_max1 gk_max2 gk_max3 (by decide) (Nat.zero_le _) (Nat.zero_le _) (Nat.le_of_ble_eq_true rfl) ?_
  refine x_newQ (N := N) C dX0_init_10 gk_cl_X0_13 (by split <;> omega) (by omega) (by omega) (by omega) ?_
  refine x_putF C hN dX0_init_13 kfX0_15 kx_0_0 (by decide +kernel) rfl rfl ((mu_ne _ _ (by omega)).trans h0) (Nat.le_of_ble_eq_true rfl) ?_
  refine x_iconst C dX0_init_16 ⟨by decide, by decide⟩ ?_
  refine s_ist3_2 C dX0_init_17 rfl ?_
  rw [show 0 + 1 = 1 + 7 * 0 by omega, show 0 + N = N + 73 * 0 by omega]
  refine lp_X0_init hN1 C hQ N 0 _ (by omega) (mu_eq _ _ _) ?_ (fun k hk => absurd hk (by omega)) (fun a ha => ?_)
  · rw [mu_ne _ _ (by omega), mu_eq]; simp
  · rw [mu_ne _ _ (by omega), mu_ne _ _ (by omega)]
