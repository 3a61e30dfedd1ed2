/-! ===== the reference: its constructor ===== -/
def gS (k : Int) : Int := if k = 2 ∨ k = 15 then 26 else if k = 11 ∨ k = 18 then 27 else if k < 2 then k else if k < 11 then k - 1 else if k < 15 then k - 2 else if k < 18 then k - 3 else k - 4
def sg30 : List Int := [0, 1, 26, 2, 3, 4, 5, 6, 7, 8, 9, 27, 10, 11, 12, 26, 13, 14, 27, 15, 16, 17, 18, 19, 20, 21, 22, 23, 24, 25]
def F30 : mF := ((sg30, [(6, 9, 1), (18, 21, 1)], [(3, 2), (11, 4)]), 2, 7, 1, 3)
def D30 : mD := ([], F30, [], [], none)
theorem sg30_at : ∀ k : Nat, k < 30 → sg30.getD k 0 = gS k := by decide +kernel
theorem sg30_len : sg30.length = 30 := rfl
theorem wf_F30 : wfF F30 := by
  refine ⟨by decide, by decide, by decide, by decide, by decide, by decide, by decide, by decide, by decide, by decide, by decide, by decide⟩
theorem wf_D30 : wfD D30 := ⟨fun c hc => absurd (show c ∈ ([] : List Int) from hc) List.not_mem_nil, wf_F30, fun G hG => absurd (show G ∈ ([] : List mF) from hG) List.not_mem_nil, fun G hG => absurd (show G ∈ ([] : List mF) from hG) List.not_mem_nil, fun G hG => absurd (show (none : Option mF) = some G from hG) (by simp)⟩

set_option maxHeartbeats 1000000 in
set_option maxRecDepth 100000 in
theorem lp_X5_init {t : TX} {l : Launch} {n0 : Nat} {w0 : mW} {h : Nat} (C : Cb t l cX5_init RX5 2 none 1 23 1762) (kx : ∀ (k : Int) (M1 : List Int) (w : mW), rM w h 0 0 0 1 8 0 4 0 0 0 0 0 0 0 0 0 0 0 M1 (List.replicate 5 0) (List.replicate 5 0) (List.replicate 5 0) (List.replicate 5 0) (List.replicate 5 0) (List.replicate 48 0) (List.replicate 48 0) (List.replicate 48 0) (List.replicate 48 0) (List.replicate 48 0) (List.replicate 90 0) (List.replicate 90 0) (List.replicate 544 0) (List.replicate 136 0) (List.replicate 68 0) (List.replicate 48 0) (List.replicate 48 0) (List.replicate 48 0) (List.replicate 48 0) (List.replicate 68 0) (List.replicate 200 0) (List.replicate 68 0) → frR w0 w h (h + 23) → (∀ j : Nat, j < 30 → M1.getD j 0 = gS j) → J t 23 1762 303 [some (vr h), some (vi k)] [] n0 w) : ∀ (m k : Nat) (M1 : List Int) (w : mW), k + m = 30 → rM w h 0 0 0 1 8 0 4 0 0 0 0 0 0 0 0 0 0 0 M1 (List.replicate 5 0) (List.replicate 5 0) (List.replicate 5 0) (List.replicate 5 0) (List.replicate 5 0) (List.replicate 48 0) (List.replicate 48 0) (List.replicate 48 0) (List.replicate 48 0) (List.replicate 48 0) (List.replicate 90 0) (List.replicate 90 0) (List.replicate 544 0) (List.replicate 136 0) (List.replicate 68 0) (List.replicate 48 0) (List.replicate 48 0) (List.replicate 48 0) (List.replicate 48 0) (List.replicate 68 0) (List.replicate 200 0) (List.replicate 68 0) → frR w0 w h (h + 23) → (∀ j : Nat, j < k → M1.getD j 0 = gS j) → J t 23 1762 204 [some (vr h), some (vi (k : Int))] [] n0 w := by
  intro m
  induction m with
  | zero =>
    intro k M1 w hk hr hf hM
    have hk9 : k = 30 := by omega
    subst hk9
    refine x_iload_n C dX5_init_204 rfl ?_
    refine x_bipush C dX5_init_205 ⟨by decide, by decide⟩ ?_
    refine x_icmp_ge (tgt := 303) C dX5_init_207 (by decide) (fun c207 => ?_) (fun c207 => absurd c207 (by omega))
    exact kx _ M1 w hr hf hM
  | succ m ih =>
    intro k M1 w hk hr hf hM
    have l1 := hr.l1
    refine x_iload_n C dX5_init_204 rfl ?_
    refine x_bipush C dX5_init_205 ⟨by decide, by decide⟩ ?_
    refine x_icmp_ge (tgt := 303) C dX5_init_207 (by decide) (fun c207 => absurd c207 (by omega)) (fun c207 => ?_)
    refine x_aload_n C dX5_init_210 rfl ?_
    refine x_get C dX5_init_211 kfX5_7 hr.o rfl ?_
    refine x_iload_n C dX5_init_214 rfl ?_
    refine x_iload_n C dX5_init_215 rfl ?_
    refine x_iconst C dX5_init_216 ⟨by decide, by decide⟩ ?_
    refine x_icmp_eq (tgt := 226) C dX5_init_217 (by decide) (fun c217 => ?_) (fun c217 => ?_)
    · refine x_bipush C dX5_init_226 ⟨by decide, by decide⟩ ?_
      refine x_goto (tgt := 296) C dX5_init_228 (by decide) ?_
      refine x_iast C dX5_init_296 hr.a1 (by omega) (by rw [hr.l1]; omega) ?_
      refine ab_M_M1 hr hf (by rw [List.length_set]; exact hr.l1) (fun w hr hf => ?_)
      refine s_inc2_1 C dX5_init_297 rfl (by first | (unfold iR; omega) | exact ⟨by omega, by omega⟩) ?_
      refine x_goto (tgt := 204) C dX5_init_300 (by decide) ?_
      rw [show (k : Int) + 1 = ((k + 1 : Nat) : Int) by omega]
      refine ih (k + 1) _ w (by omega) hr hf (fun j hj => ?_)
      by_cases hj2 : j = k
      · rw [hj2, show ((k : Int)).toNat = k by omega, gd_setS _ (by omega)]
        unfold gS
        (repeat' split) <;> omega
      · rw [show ((k : Int)).toNat = k by omega, gd_ne (by omega)]
        exact hM j (by omega)
    · refine x_iload_n C dX5_init_220 rfl ?_
      refine x_bipush C dX5_init_221 ⟨by decide, by decide⟩ ?_
      refine x_icmp_ne (tgt := 231) C dX5_init_223 (by decide) (fun c223 => ?_) (fun c223 => ?_)
      · refine x_iload_n C dX5_init_231 rfl ?_
        refine x_bipush C dX5_init_232 ⟨by decide, by decide⟩ ?_
        refine x_icmp_eq (tgt := 243) C dX5_init_234 (by decide) (fun c234 => ?_) (fun c234 => ?_)
        · refine x_bipush C dX5_init_243 ⟨by decide, by decide⟩ ?_
          refine x_goto (tgt := 296) C dX5_init_245 (by decide) ?_
          refine x_iast C dX5_init_296 hr.a1 (by omega) (by rw [hr.l1]; omega) ?_
          refine ab_M_M1 hr hf (by rw [List.length_set]; exact hr.l1) (fun w hr hf => ?_)
          refine s_inc2_1 C dX5_init_297 rfl (by first | (unfold iR; omega) | exact ⟨by omega, by omega⟩) ?_
          refine x_goto (tgt := 204) C dX5_init_300 (by decide) ?_
          rw [show (k : Int) + 1 = ((k + 1 : Nat) : Int) by omega]
          refine ih (k + 1) _ w (by omega) hr hf (fun j hj => ?_)
          by_cases hj2 : j = k
          · rw [hj2, show ((k : Int)).toNat = k by omega, gd_setS _ (by omega)]
            unfold gS
            (repeat' split) <;> omega
          · rw [show ((k : Int)).toNat = k by omega, gd_ne (by omega)]
            exact hM j (by omega)
        · refine x_iload_n C dX5_init_237 rfl ?_
          refine x_bipush C dX5_init_238 ⟨by decide, by decide⟩ ?_
          refine x_icmp_ne (tgt := 248) C dX5_init_240 (by decide) (fun c240 => ?_) (fun c240 => ?_)
          · refine x_iload_n C dX5_init_248 rfl ?_
            refine x_iconst C dX5_init_249 ⟨by decide, by decide⟩ ?_
            refine x_icmp_ge (tgt := 257) C dX5_init_250 (by decide) (fun c250 => ?_) (fun c250 => ?_)
            · refine x_iload_n C dX5_init_257 rfl ?_
              refine x_bipush C dX5_init_258 ⟨by decide, by decide⟩ ?_
              refine x_icmp_ge (tgt := 269) C dX5_init_260 (by decide) (fun c260 => ?_) (fun c260 => ?_)
              · refine x_iload_n C dX5_init_269 rfl ?_
                refine x_bipush C dX5_init_270 ⟨by decide, by decide⟩ ?_
                refine x_icmp_ge (tgt := 281) C dX5_init_272 (by decide) (fun c272 => ?_) (fun c272 => ?_)
                · refine x_iload_n C dX5_init_281 rfl ?_
                  refine x_bipush C dX5_init_282 ⟨by decide, by decide⟩ ?_
                  refine x_icmp_ge (tgt := 293) C dX5_init_284 (by decide) (fun c284 => ?_) (fun c284 => ?_)
                  · refine x_iload_n C dX5_init_293 rfl ?_
                    refine x_iconst C dX5_init_294 ⟨by decide, by decide⟩ ?_
                    refine x_isub C dX5_init_295 (by first | (unfold iR; omega) | exact ⟨by omega, by omega⟩) ?_
                    refine x_iast C dX5_init_296 hr.a1 (by omega) (by rw [hr.l1]; omega) ?_
                    refine ab_M_M1 hr hf (by rw [List.length_set]; exact hr.l1) (fun w hr hf => ?_)
                    refine s_inc2_1 C dX5_init_297 rfl (by first | (unfold iR; omega) | exact ⟨by omega, by omega⟩) ?_
                    refine x_goto (tgt := 204) C dX5_init_300 (by decide) ?_
                    rw [show (k : Int) + 1 = ((k + 1 : Nat) : Int) by omega]
                    refine ih (k + 1) _ w (by omega) hr hf (fun j hj => ?_)
                    by_cases hj2 : j = k
                    · rw [hj2, show ((k : Int)).toNat = k by omega, gd_setS _ (by omega)]
                      unfold gS
                      (repeat' split) <;> omega
                    · rw [show ((k : Int)).toNat = k by omega, gd_ne (by omega)]
                      exact hM j (by omega)
                  · refine x_iload_n C dX5_init_287 rfl ?_
                    refine x_iconst C dX5_init_288 ⟨by decide, by decide⟩ ?_
                    refine x_isub C dX5_init_289 (by first | (unfold iR; omega) | exact ⟨by omega, by omega⟩) ?_
                    refine x_goto (tgt := 296) C dX5_init_290 (by decide) ?_
                    refine x_iast C dX5_init_296 hr.a1 (by omega) (by rw [hr.l1]; omega) ?_
                    refine ab_M_M1 hr hf (by rw [List.length_set]; exact hr.l1) (fun w hr hf => ?_)
                    refine s_inc2_1 C dX5_init_297 rfl (by first | (unfold iR; omega) | exact ⟨by omega, by omega⟩) ?_
                    refine x_goto (tgt := 204) C dX5_init_300 (by decide) ?_
                    rw [show (k : Int) + 1 = ((k + 1 : Nat) : Int) by omega]
                    refine ih (k + 1) _ w (by omega) hr hf (fun j hj => ?_)
                    by_cases hj2 : j = k
                    · rw [hj2, show ((k : Int)).toNat = k by omega, gd_setS _ (by omega)]
                      unfold gS
                      (repeat' split) <;> omega
                    · rw [show ((k : Int)).toNat = k by omega, gd_ne (by omega)]
                      exact hM j (by omega)
                · refine x_iload_n C dX5_init_275 rfl ?_
                  refine x_iconst C dX5_init_276 ⟨by decide, by decide⟩ ?_
                  refine x_isub C dX5_init_277 (by first | (unfold iR; omega) | exact ⟨by omega, by omega⟩) ?_
                  refine x_goto (tgt := 296) C dX5_init_278 (by decide) ?_
                  refine x_iast C dX5_init_296 hr.a1 (by omega) (by rw [hr.l1]; omega) ?_
                  refine ab_M_M1 hr hf (by rw [List.length_set]; exact hr.l1) (fun w hr hf => ?_)
                  refine s_inc2_1 C dX5_init_297 rfl (by first | (unfold iR; omega) | exact ⟨by omega, by omega⟩) ?_
                  refine x_goto (tgt := 204) C dX5_init_300 (by decide) ?_
                  rw [show (k : Int) + 1 = ((k + 1 : Nat) : Int) by omega]
                  refine ih (k + 1) _ w (by omega) hr hf (fun j hj => ?_)
                  by_cases hj2 : j = k
                  · rw [hj2, show ((k : Int)).toNat = k by omega, gd_setS _ (by omega)]
                    unfold gS
                    (repeat' split) <;> omega
                  · rw [show ((k : Int)).toNat = k by omega, gd_ne (by omega)]
                    exact hM j (by omega)
              · refine x_iload_n C dX5_init_263 rfl ?_
                refine x_iconst C dX5_init_264 ⟨by decide, by decide⟩ ?_
                refine x_isub C dX5_init_265 (by first | (unfold iR; omega) | exact ⟨by omega, by omega⟩) ?_
                refine x_goto (tgt := 296) C dX5_init_266 (by decide) ?_
                refine x_iast C dX5_init_296 hr.a1 (by omega) (by rw [hr.l1]; omega) ?_
                refine ab_M_M1 hr hf (by rw [List.length_set]; exact hr.l1) (fun w hr hf => ?_)
                refine s_inc2_1 C dX5_init_297 rfl (by first | (unfold iR; omega) | exact ⟨by omega, by omega⟩) ?_
                refine x_goto (tgt := 204) C dX5_init_300 (by decide) ?_
                rw [show (k : Int) + 1 = ((k + 1 : Nat) : Int) by omega]
                refine ih (k + 1) _ w (by omega) hr hf (fun j hj => ?_)
                by_cases hj2 : j = k
                · rw [hj2, show ((k : Int)).toNat = k by omega, gd_setS _ (by omega)]
                  unfold gS
                  (repeat' split) <;> omega
                · rw [show ((k : Int)).toNat = k by omega, gd_ne (by omega)]
                  exact hM j (by omega)
            · refine x_iload_n C dX5_init_253 rfl ?_
              refine x_goto (tgt := 296) C dX5_init_254 (by decide) ?_
              refine x_iast C dX5_init_296 hr.a1 (by omega) (by rw [hr.l1]; omega) ?_
              refine ab_M_M1 hr hf (by rw [List.length_set]; exact hr.l1) (fun w hr hf => ?_)
              refine s_inc2_1 C dX5_init_297 rfl (by first | (unfold iR; omega) | exact ⟨by omega, by omega⟩) ?_
              refine x_goto (tgt := 204) C dX5_init_300 (by decide) ?_
              rw [show (k : Int) + 1 = ((k + 1 : Nat) : Int) by omega]
              refine ih (k + 1) _ w (by omega) hr hf (fun j hj => ?_)
              by_cases hj2 : j = k
              · rw [hj2, show ((k : Int)).toNat = k by omega, gd_setS _ (by omega)]
                unfold gS
                (repeat' split) <;> omega
              · rw [show ((k : Int)).toNat = k by omega, gd_ne (by omega)]
                exact hM j (by omega)
          · refine x_bipush C dX5_init_243 ⟨by decide, by decide⟩ ?_
            refine x_goto (tgt := 296) C dX5_init_245 (by decide) ?_
            refine x_iast C dX5_init_296 hr.a1 (by omega) (by rw [hr.l1]; omega) ?_
            refine ab_M_M1 hr hf (by rw [List.length_set]; exact hr.l1) (fun w hr hf => ?_)
            refine s_inc2_1 C dX5_init_297 rfl (by first | (unfold iR; omega) | exact ⟨by omega, by omega⟩) ?_
            refine x_goto (tgt := 204) C dX5_init_300 (by decide) ?_
            rw [show (k : Int) + 1 = ((k + 1 : Nat) : Int) by omega]
            refine ih (k + 1) _ w (by omega) hr hf (fun j hj => ?_)
            by_cases hj2 : j = k
            · rw [hj2, show ((k : Int)).toNat = k by omega, gd_setS _ (by omega)]
              unfold gS
              (repeat' split) <;> omega
            · rw [show ((k : Int)).toNat = k by omega, gd_ne (by omega)]
              exact hM j (by omega)
      · refine x_bipush C dX5_init_226 ⟨by decide, by decide⟩ ?_
        refine x_goto (tgt := 296) C dX5_init_228 (by decide) ?_
        refine x_iast C dX5_init_296 hr.a1 (by omega) (by rw [hr.l1]; omega) ?_
        refine ab_M_M1 hr hf (by rw [List.length_set]; exact hr.l1) (fun w hr hf => ?_)
        refine s_inc2_1 C dX5_init_297 rfl (by first | (unfold iR; omega) | exact ⟨by omega, by omega⟩) ?_
        refine x_goto (tgt := 204) C dX5_init_300 (by decide) ?_
        rw [show (k : Int) + 1 = ((k + 1 : Nat) : Int) by omega]
        refine ih (k + 1) _ w (by omega) hr hf (fun j hj => ?_)
        by_cases hj2 : j = k
        · rw [hj2, show ((k : Int)).toNat = k by omega, gd_setS _ (by omega)]
          unfold gS
          (repeat' split) <;> omega
        · rw [show ((k : Int)).toNat = k by omega, gd_ne (by omega)]
          exact hM j (by omega)

set_option maxHeartbeats 1000000 in
set_option maxRecDepth 100000 in
theorem c_X5_init (l : Launch) {w : mW} {h n : Nat} (hn : n = h + 1) (h0 : w h = some (co 5 [vi 0, vn, vi 0, vn, vn, vn, vi 0, vn, vn, vi 0, vi 0, vi 0, vi 0, vi 0, vn, vn, vn, vn, vn, vi 0, vi 0, vn, vn, vn, vi 0, vn, vi 0, vn, vi 0, vn, vn, vn, vn, vi 0, vi 0, vn, vn, vi 0, vi 0, vi 0, vn])) : Ct l yX5_init cX5_init 2 none 1 23 1762 [vr h] n w (fun r n' w' => r = none ∧ n' = h + 24 ∧ isM w' h D30 ∧ frR w w' h (h + 23)) := by
  subst hn
  refine Ct.ofN kyX5_init rfl (Nat.le_of_ble_eq_true rfl) ?_
  intro t C hQ hN
  show J t 0 0 0 [some (vr h), none] [] (h + 1) w
  refine x_aload_n C dX5_init_0 rfl ?_
  refine x_objInit C dX5_init_1 gk_obj_X5 gk_obj1 gk_obj2 (by decide) (by decide) ?_
  refine x_aload_n C dX5_init_4 rfl ?_
  refine x_bipush C dX5_init_5 ⟨by decide, by decide⟩ ?_
  refine x_newI (N := 41) C dX5_init_7 gk_ar_int rfl (Nat.le_of_ble_eq_true rfl) (Nat.le_of_ble_eq_true rfl) (Nat.le_of_ble_eq_true rfl) ?_
  refine x_putF C hN dX5_init_9 kfX5_7 kx_5_1 (by decide +kernel) rfl rfl ((mu_ne _ _ (by omega)).trans h0) (Nat.le_of_ble_eq_true rfl) ?_
  refine x_hide (n := h + 2) (fun w1 => w1 h = some (co 5 [vi 0, vr (h + 1), vi 0, vn, vn, vn, vi 0, vn, vn, vi 0, vi 0, vi 0, vi 0, vi 0, vn, vn, vn, vn, vn, vi 0, vi 0, vn, vn, vn, vi 0, vn, vi 0, vn, vi 0, vn, vn, vn, vn, vi 0, vi 0, vn, vn, vi 0, vi 0, vi 0, vn]) ∧ w1 (h + 1) = some (ca (List.replicate 41 0)) ∧ frR w w1 h (h + 23)) ⟨mu_eq _ _ _, (mu_ne _ _ (by omega)).trans (mu_eq _ _ _), fun a ha => by rw [mu_ne _ _ (by omega), mu_ne _ _ (by omega)]⟩ ?_
  rintro w1 ⟨h0, g1, hf⟩
  refine x_aload_n C dX5_init_12 rfl ?_
  refine x_iconst C dX5_init_13 ⟨by decide, by decide⟩ ?_
  refine x_newI (N := 5) C dX5_init_14 gk_ar_int rfl (Nat.le_of_ble_eq_true rfl) (Nat.le_of_ble_eq_true rfl) (Nat.le_of_ble_eq_true rfl) ?_
  refine x_putF C hN dX5_init_16 kfX5_13 kx_5_3 (by decide +kernel) rfl rfl ((mu_ne _ _ (by omega)).trans h0) (Nat.le_of_ble_eq_true rfl) ?_
  refine x_hide (n := h + 3) (fun w1 => w1 h = some (co 5 [vi 0, vr (h + 1), vi 0, vr (h + 2), vn, vn, vi 0, vn, vn, vi 0, vi 0, vi 0, vi 0, vi 0, vn, vn, vn, vn, vn, vi 0, vi 0, vn, vn, vn, vi 0, vn, vi 0, vn, vi 0, vn, vn, vn, vn, vi 0, vi 0, vn, vn, vi 0, vi 0, vi 0, vn]) ∧ w1 (h + 1) = some (ca (List.replicate 41 0)) ∧ w1 (h + 2) = some (ca (List.replicate 5 0)) ∧ frR w w1 h (h + 23)) ⟨mu_eq _ _ _, (mu_ne _ _ (by omega)).trans ((mu_ne _ _ (by omega)).trans g1), (mu_ne _ _ (by omega)).trans (mu_eq _ _ _), fun a ha => by rw [mu_ne _ _ (by omega), mu_ne _ _ (by omega), hf a ha]⟩ ?_
  rintro w1 ⟨h0, g1, g2, hf⟩
  refine x_aload_n C dX5_init_19 rfl ?_
  refine x_iconst C dX5_init_20 ⟨by decide, by decide⟩ ?_
  refine x_newI (N := 5) C dX5_init_21 gk_ar_int rfl (Nat.le_of_ble_eq_true rfl) (Nat.le_of_ble_eq_true rfl) (Nat.le_of_ble_eq_true rfl) ?_
  refine x_putF C hN dX5_init_23 kfX5_16 kx_5_4 (by decide +kernel) rfl rfl ((mu_ne _ _ (by omega)).trans h0) (Nat.le_of_ble_eq_true rfl) ?_
  refine x_hide (n := h + 4) (fun w1 => w1 h = some (co 5 [vi 0, vr (h + 1), vi 0, vr (h + 2), vr (h + 3), vn, vi 0, vn, vn, vi 0, vi 0, vi 0, vi 0, vi 0, vn, vn, vn, vn, vn, vi 0, vi 0, vn, vn, vn, vi 0, vn, vi 0, vn, vi 0, vn, vn, vn, vn, vi 0, vi 0, vn, vn, vi 0, vi 0, vi 0, vn]) ∧ w1 (h + 1) = some (ca (List.replicate 41 0)) ∧ w1 (h + 2) = some (ca (List.replicate 5 0)) ∧ w1 (h + 3) = some (ca (List.replicate 5 0)) ∧ frR w w1 h (h + 23)) ⟨mu_eq _ _ _, (mu_ne _ _ (by omega)).trans ((mu_ne _ _ (by omega)).trans g1), (mu_ne _ _ (by omega)).trans ((mu_ne _ _ (by omega)).trans g2), (mu_ne _ _ (by omega)).trans (mu_eq _ _ _), fun a ha => by rw [mu_ne _ _ (by omega), mu_ne _ _ (by omega), hf a ha]⟩ ?_
  rintro w1 ⟨h0, g1, g2, g3, hf⟩
  refine x_aload_n C dX5_init_26 rfl ?_
  refine x_iconst C dX5_init_27 ⟨by decide, by decide⟩ ?_
  refine x_newI (N := 5) C dX5_init_28 gk_ar_int rfl (Nat.le_of_ble_eq_true rfl) (Nat.le_of_ble_eq_true rfl) (Nat.le_of_ble_eq_true rfl) ?_
  refine x_putF C hN dX5_init_30 kfX5_19 kx_5_5 (by decide +kernel) rfl rfl ((mu_ne _ _ (by omega)).trans h0) (Nat.le_of_ble_eq_true rfl) ?_
  refine x_hide (n := h + 5) (fun w1 => w1 h = some (co 5 [vi 0, vr (h + 1), vi 0, vr (h + 2), vr (h + 3), vr (h + 4), vi 0, vn, vn, vi 0, vi 0, vi 0, vi 0, vi 0, vn, vn, vn, vn, vn, vi 0, vi 0, vn, vn, vn, vi 0, vn, vi 0, vn, vi 0, vn, vn, vn, vn, vi 0, vi 0, vn, vn, vi 0, vi 0, vi 0, vn]) ∧ w1 (h + 1) = some (ca (List.replicate 41 0)) ∧ w1 (h + 2) = some (ca (List.replicate 5 0)) ∧ w1 (h + 3) = some (ca (List.replicate 5 0)) ∧ w1 (h + 4) = some (ca (List.replicate 5 0)) ∧ frR w w1 h (h + 23)) ⟨mu_eq _ _ _, (mu_ne _ _ (by omega)).trans ((mu_ne _ _ (by omega)).trans g1), (mu_ne _ _ (by omega)).trans ((mu_ne _ _ (by omega)).trans g2), (mu_ne _ _ (by omega)).trans ((mu_ne _ _ (by omega)).trans g3), (mu_ne _ _ (by omega)).trans (mu_eq _ _ _), fun a ha => by rw [mu_ne _ _ (by omega), mu_ne _ _ (by omega), hf a ha]⟩ ?_
  rintro w1 ⟨h0, g1, g2, g3, g4, hf⟩
  refine x_aload_n C dX5_init_33 rfl ?_
  refine x_iconst C dX5_init_34 ⟨by decide, by decide⟩ ?_
  refine x_newI (N := 5) C dX5_init_35 gk_ar_int rfl (Nat.le_of_ble_eq_true rfl) (Nat.le_of_ble_eq_true rfl) (Nat.le_of_ble_eq_true rfl) ?_
  refine x_putF C hN dX5_init_37 kfX5_22 kx_5_7 (by decide +kernel) rfl rfl ((mu_ne _ _ (by omega)).trans h0) (Nat.le_of_ble_eq_true rfl) ?_
  refine x_hide (n := h + 6) (fun w1 => w1 h = some (co 5 [vi 0, vr (h + 1), vi 0, vr (h + 2), vr (h + 3), vr (h + 4), vi 0, vr (h + 5), vn, vi 0, vi 0, vi 0, vi 0, vi 0, vn, vn, vn, vn, vn, vi 0, vi 0, vn, vn, vn, vi 0, vn, vi 0, vn, vi 0, vn, vn, vn, vn, vi 0, vi 0, vn, vn, vi 0, vi 0, vi 0, vn]) ∧ w1 (h + 1) = some (ca (List.replicate 41 0)) ∧ w1 (h + 2) = some (ca (List.replicate 5 0)) ∧ w1 (h + 3) = some (ca (List.replicate 5 0)) ∧ w1 (h + 4) = some (ca (List.replicate 5 0)) ∧ w1 (h + 5) = some (ca (List.replicate 5 0)) ∧ frR w w1 h (h + 23)) ⟨mu_eq _ _ _, (mu_ne _ _ (by omega)).trans ((mu_ne _ _ (by omega)).trans g1), (mu_ne _ _ (by omega)).trans ((mu_ne _ _ (by omega)).trans g2), (mu_ne _ _ (by omega)).trans ((mu_ne _ _ (by omega)).trans g3), (mu_ne _ _ (by omega)).trans ((mu_ne _ _ (by omega)).trans g4), (mu_ne _ _ (by omega)).trans (mu_eq _ _ _), fun a ha => by rw [mu_ne _ _ (by omega), mu_ne _ _ (by omega), hf a ha]⟩ ?_
  rintro w1 ⟨h0, g1, g2, g3, g4, g5, hf⟩
  refine x_aload_n C dX5_init_40 rfl ?_
  refine x_iconst C dX5_init_41 ⟨by decide, by decide⟩ ?_
  refine x_newI (N := 5) C dX5_init_42 gk_ar_int rfl (Nat.le_of_ble_eq_true rfl) (Nat.le_of_ble_eq_true rfl) (Nat.le_of_ble_eq_true rfl) ?_
  refine x_putF C hN dX5_init_44 kfX5_25 kx_5_8 (by decide +kernel) rfl rfl ((mu_ne _ _ (by omega)).trans h0) (Nat.le_of_ble_eq_true rfl) ?_
  refine x_hide (n := h + 7) (fun w1 => w1 h = some (co 5 [vi 0, vr (h + 1), vi 0, vr (h + 2), vr (h + 3), vr (h + 4), vi 0, vr (h + 5), vr (h + 6), vi 0, vi 0, vi 0, vi 0, vi 0, vn, vn, vn, vn, vn, vi 0, vi 0, vn, vn, vn, vi 0, vn, vi 0, vn, vi 0, vn, vn, vn, vn, vi 0, vi 0, vn, vn, vi 0, vi 0, vi 0, vn]) ∧ w1 (h + 1) = some (ca (List.replicate 41 0)) ∧ w1 (h + 2) = some (ca (List.replicate 5 0)) ∧ w1 (h + 3) = some (ca (List.replicate 5 0)) ∧ w1 (h + 4) = some (ca (List.replicate 5 0)) ∧ w1 (h + 5) = some (ca (List.replicate 5 0)) ∧ w1 (h + 6) = some (ca (List.replicate 5 0)) ∧ frR w w1 h (h + 23)) ⟨mu_eq _ _ _, (mu_ne _ _ (by omega)).trans ((mu_ne _ _ (by omega)).trans g1), (mu_ne _ _ (by omega)).trans ((mu_ne _ _ (by omega)).trans g2), (mu_ne _ _ (by omega)).trans ((mu_ne _ _ (by omega)).trans g3), (mu_ne _ _ (by omega)).trans ((mu_ne _ _ (by omega)).trans g4), (mu_ne _ _ (by omega)).trans ((mu_ne _ _ (by omega)).trans g5), (mu_ne _ _ (by omega)).trans (mu_eq _ _ _), fun a ha => by rw [mu_ne _ _ (by omega), mu_ne _ _ (by omega), hf a ha]⟩ ?_
  rintro w1 ⟨h0, g1, g2, g3, g4, g5, g6, hf⟩
  refine x_aload_n C dX5_init_47 rfl ?_
  refine x_iconst C dX5_init_48 ⟨by decide, by decide⟩ ?_
  refine x_put C dX5_init_49 kfX5_28 kw_5_9 rfl rfl h0 (Nat.le_of_ble_eq_true rfl) ?_
  refine x_hide (n := h + 7) (fun w1 => w1 h = some (co 5 [vi 0, vr (h + 1), vi 0, vr (h + 2), vr (h + 3), vr (h + 4), vi 0, vr (h + 5), vr (h + 6), vi 1, vi 0, vi 0, vi 0, vi 0, vn, vn, vn, vn, vn, vi 0, vi 0, vn, vn, vn, vi 0, vn, vi 0, vn, vi 0, vn, vn, vn, vn, vi 0, vi 0, vn, vn, vi 0, vi 0, vi 0, vn]) ∧ w1 (h + 1) = some (ca (List.replicate 41 0)) ∧ w1 (h + 2) = some (ca (List.replicate 5 0)) ∧ w1 (h + 3) = some (ca (List.replicate 5 0)) ∧ w1 (h + 4) = some (ca (List.replicate 5 0)) ∧ w1 (h + 5) = some (ca (List.replicate 5 0)) ∧ w1 (h + 6) = some (ca (List.replicate 5 0)) ∧ frR w w1 h (h + 23)) ⟨mu_eq _ _ _, (mu_ne _ _ (by omega)).trans g1, (mu_ne _ _ (by omega)).trans g2, (mu_ne _ _ (by omega)).trans g3, (mu_ne _ _ (by omega)).trans g4, (mu_ne _ _ (by omega)).trans g5, (mu_ne _ _ (by omega)).trans g6, fun a ha => by rw [mu_ne _ _ (by omega), hf a ha]⟩ ?_
  rintro w1 ⟨h0, g1, g2, g3, g4, g5, g6, hf⟩
  refine x_aload_n C dX5_init_52 rfl ?_
  refine x_bipush C dX5_init_53 ⟨by decide, by decide⟩ ?_
  refine x_put C dX5_init_55 kfX5_32 kw_5_10 rfl rfl h0 (Nat.le_of_ble_eq_true rfl) ?_
  refine x_hide (n := h + 7) (fun w1 => w1 h = some (co 5 [vi 0, vr (h + 1), vi 0, vr (h + 2), vr (h + 3), vr (h + 4), vi 0, vr (h + 5), vr (h + 6), vi 1, vi 8, vi 0, vi 0, vi 0, vn, vn, vn, vn, vn, vi 0, vi 0, vn, vn, vn, vi 0, vn, vi 0, vn, vi 0, vn, vn, vn, vn, vi 0, vi 0, vn, vn, vi 0, vi 0, vi 0, vn]) ∧ w1 (h + 1) = some (ca (List.replicate 41 0)) ∧ w1 (h + 2) = some (ca (List.replicate 5 0)) ∧ w1 (h + 3) = some (ca (List.replicate 5 0)) ∧ w1 (h + 4) = some (ca (List.replicate 5 0)) ∧ w1 (h + 5) = some (ca (List.replicate 5 0)) ∧ w1 (h + 6) = some (ca (List.replicate 5 0)) ∧ frR w w1 h (h + 23)) ⟨mu_eq _ _ _, (mu_ne _ _ (by omega)).trans g1, (mu_ne _ _ (by omega)).trans g2, (mu_ne _ _ (by omega)).trans g3, (mu_ne _ _ (by omega)).trans g4, (mu_ne _ _ (by omega)).trans g5, (mu_ne _ _ (by omega)).trans g6, fun a ha => by rw [mu_ne _ _ (by omega), hf a ha]⟩ ?_
  rintro w1 ⟨h0, g1, g2, g3, g4, g5, g6, hf⟩
  refine x_aload_n C dX5_init_58 rfl ?_
  refine x_iconst C dX5_init_59 ⟨by decide, by decide⟩ ?_
  refine x_put C dX5_init_60 kfX5_35 kw_5_12 rfl rfl h0 (Nat.le_of_ble_eq_true rfl) ?_
  refine x_hide (n := h + 7) (fun w1 => w1 h = some (co 5 [vi 0, vr (h + 1), vi 0, vr (h + 2), vr (h + 3), vr (h + 4), vi 0, vr (h + 5), vr (h + 6), vi 1, vi 8, vi 0, vi 4, vi 0, vn, vn, vn, vn, vn, vi 0, vi 0, vn, vn, vn, vi 0, vn, vi 0, vn, vi 0, vn, vn, vn, vn, vi 0, vi 0, vn, vn, vi 0, vi 0, vi 0, vn]) ∧ w1 (h + 1) = some (ca (List.replicate 41 0)) ∧ w1 (h + 2) = some (ca (List.replicate 5 0)) ∧ w1 (h + 3) = some (ca (List.replicate 5 0)) ∧ w1 (h + 4) = some (ca (List.replicate 5 0)) ∧ w1 (h + 5) = some (ca (List.replicate 5 0)) ∧ w1 (h + 6) = some (ca (List.replicate 5 0)) ∧ frR w w1 h (h + 23)) ⟨mu_eq _ _ _, (mu_ne _ _ (by omega)).trans g1, (mu_ne _ _ (by omega)).trans g2, (mu_ne _ _ (by omega)).trans g3, (mu_ne _ _ (by omega)).trans g4, (mu_ne _ _ (by omega)).trans g5, (mu_ne _ _ (by omega)).trans g6, fun a ha => by rw [mu_ne _ _ (by omega), hf a ha]⟩ ?_
  rintro w1 ⟨h0, g1, g2, g3, g4, g5, g6, hf⟩
  refine x_aload_n C dX5_init_63 rfl ?_
  refine x_bipush C dX5_init_64 ⟨by decide, by decide⟩ ?_
  refine x_newI (N := 48) C dX5_init_66 gk_ar_int rfl (Nat.le_of_ble_eq_true rfl) (Nat.le_of_ble_eq_true rfl) (Nat.le_of_ble_eq_true rfl) ?_
  refine x_putF C hN dX5_init_68 kfX5_38 kx_5_14 (by decide +kernel) rfl rfl ((mu_ne _ _ (by omega)).trans h0) (Nat.le_of_ble_eq_true rfl) ?_
  refine x_hide (n := h + 8) (fun w1 => w1 h = some (co 5 [vi 0, vr (h + 1), vi 0, vr (h + 2), vr (h + 3), vr (h + 4), vi 0, vr (h + 5), vr (h + 6), vi 1, vi 8, vi 0, vi 4, vi 0, vr (h + 7), vn, vn, vn, vn, vi 0, vi 0, vn, vn, vn, vi 0, vn, vi 0, vn, vi 0, vn, vn, vn, vn, vi 0, vi 0, vn, vn, vi 0, vi 0, vi 0, vn]) ∧ w1 (h + 1) = some (ca (List.replicate 41 0)) ∧ w1 (h + 2) = some (ca (List.replicate 5 0)) ∧ w1 (h + 3) = some (ca (List.replicate 5 0)) ∧ w1 (h + 4) = some (ca (List.replicate 5 0)) ∧ w1 (h + 5) = some (ca (List.replicate 5 0)) ∧ w1 (h + 6) = some (ca (List.replicate 5 0)) ∧ w1 (h + 7) = some (ca (List.replicate 48 0)) ∧ frR w w1 h (h + 23)) ⟨mu_eq _ _ _, (mu_ne _ _ (by omega)).trans ((mu_ne _ _ (by omega)).trans g1), (mu_ne _ _ (by omega)).trans ((mu_ne _ _ (by omega)).trans g2), (mu_ne _ _ (by omega)).trans ((mu_ne _ _ (by omega)).trans g3), (mu_ne _ _ (by omega)).trans ((mu_ne _ _ (by omega)).trans g4), (mu_ne _ _ (by omega)).trans ((mu_ne _ _ (by omega)).trans g5), (mu_ne _ _ (by omega)).trans ((mu_ne _ _ (by omega)).trans g6), (mu_ne _ _ (by omega)).trans (mu_eq _ _ _), fun a ha => by rw [mu_ne _ _ (by omega), mu_ne _ _ (by omega), hf a ha]⟩ ?_
  rintro w1 ⟨h0, g1, g2, g3, g4, g5, g6, g7, hf⟩
  refine x_aload_n C dX5_init_71 rfl ?_
  refine x_bipush C dX5_init_72 ⟨by decide, by decide⟩ ?_
  refine x_newI (N := 48) C dX5_init_74 gk_ar_int rfl (Nat.le_of_ble_eq_true rfl) (Nat.le_of_ble_eq_true rfl) (Nat.le_of_ble_eq_true rfl) ?_
  refine x_putF C hN dX5_init_76 kfX5_41 kx_5_15 (by decide +kernel) rfl rfl ((mu_ne _ _ (by omega)).trans h0) (Nat.le_of_ble_eq_true rfl) ?_
  refine x_hide (n := h + 9) (fun w1 => w1 h = some (co 5 [vi 0, vr (h + 1), vi 0, vr (h + 2), vr (h + 3), vr (h + 4), vi 0, vr (h + 5), vr (h + 6), vi 1, vi 8, vi 0, vi 4, vi 0, vr (h + 7), vr (h + 8), vn, vn, vn, vi 0, vi 0, vn, vn, vn, vi 0, vn, vi 0, vn, vi 0, vn, vn, vn, vn, vi 0, vi 0, vn, vn, vi 0, vi 0, vi 0, vn]) ∧ w1 (h + 1) = some (ca (List.replicate 41 0)) ∧ w1 (h + 2) = some (ca (List.replicate 5 0)) ∧ w1 (h + 3) = some (ca (List.replicate 5 0)) ∧ w1 (h + 4) = some (ca (List.replicate 5 0)) ∧ w1 (h + 5) = some (ca (List.replicate 5 0)) ∧ w1 (h + 6) = some (ca (List.replicate 5 0)) ∧ w1 (h + 7) = some (ca (List.replicate 48 0)) ∧ w1 (h + 8) = some (ca (List.replicate 48 0)) ∧ frR w w1 h (h + 23)) ⟨mu_eq _ _ _, (mu_ne _ _ (by omega)).trans ((mu_ne _ _ (by omega)).trans g1), (mu_ne _ _ (by omega)).trans ((mu_ne _ _ (by omega)).trans g2), (mu_ne _ _ (by omega)).trans ((mu_ne _ _ (by omega)).trans g3), (mu_ne _ _ (by omega)).trans ((mu_ne _ _ (by omega)).trans g4), (mu_ne _ _ (by omega)).trans ((mu_ne _ _ (by omega)).trans g5), (mu_ne _ _ (by omega)).trans ((mu_ne _ _ (by omega)).trans g6), (mu_ne _ _ (by omega)).trans ((mu_ne _ _ (by omega)).trans g7), (mu_ne _ _ (by omega)).trans (mu_eq _ _ _), fun a ha => by rw [mu_ne _ _ (by omega), mu_ne _ _ (by omega), hf a ha]⟩ ?_
  rintro w1 ⟨h0, g1, g2, g3, g4, g5, g6, g7, g8, hf⟩
  refine x_aload_n C dX5_init_79 rfl ?_
  refine x_bipush C dX5_init_80 ⟨by decide, by decide⟩ ?_
  refine x_newI (N := 48) C dX5_init_82 gk_ar_int rfl (Nat.le_of_ble_eq_true rfl) (Nat.le_of_ble_eq_true rfl) (Nat.le_of_ble_eq_true rfl) ?_
  refine x_putF C hN dX5_init_84 kfX5_44 kx_5_16 (by decide +kernel) rfl rfl ((mu_ne _ _ (by omega)).trans h0) (Nat.le_of_ble_eq_true rfl) ?_
  refine x_hide (n := h + 10) (fun w1 => w1 h = some (co 5 [vi 0, vr (h + 1), vi 0, vr (h + 2), vr (h + 3), vr (h + 4), vi 0, vr (h + 5), vr (h + 6), vi 1, vi 8, vi 0, vi 4, vi 0, vr (h + 7), vr (h + 8), vr (h + 9), vn, vn, vi 0, vi 0, vn, vn, vn, vi 0, vn, vi 0, vn, vi 0, vn, vn, vn, vn, vi 0, vi 0, vn, vn, vi 0, vi 0, vi 0, vn]) ∧ w1 (h + 1) = some (ca (List.replicate 41 0)) ∧ w1 (h + 2) = some (ca (List.replicate 5 0)) ∧ w1 (h + 3) = some (ca (List.replicate 5 0)) ∧ w1 (h + 4) = some (ca (List.replicate 5 0)) ∧ w1 (h + 5) = some (ca (List.replicate 5 0)) ∧ w1 (h + 6) = some (ca (List.replicate 5 0)) ∧ w1 (h + 7) = some (ca (List.replicate 48 0)) ∧ w1 (h + 8) = some (ca (List.replicate 48 0)) ∧ w1 (h + 9) = some (ca (List.replicate 48 0)) ∧ frR w w1 h (h + 23)) ⟨mu_eq _ _ _, (mu_ne _ _ (by omega)).trans ((mu_ne _ _ (by omega)).trans g1), (mu_ne _ _ (by omega)).trans ((mu_ne _ _ (by omega)).trans g2), (mu_ne _ _ (by omega)).trans ((mu_ne _ _ (by omega)).trans g3), (mu_ne _ _ (by omega)).trans ((mu_ne _ _ (by omega)).trans g4), (mu_ne _ _ (by omega)).trans ((mu_ne _ _ (by omega)).trans g5), (mu_ne _ _ (by omega)).trans ((mu_ne _ _ (by omega)).trans g6), (mu_ne _ _ (by omega)).trans ((mu_ne _ _ (by omega)).trans g7), (mu_ne _ _ (by omega)).trans ((mu_ne _ _ (by omega)).trans g8), (mu_ne _ _ (by omega)).trans (mu_eq _ _ _), fun a ha => by rw [mu_ne _ _ (by omega), mu_ne _ _ (by omega), hf a ha]⟩ ?_
  rintro w1 ⟨h0, g1, g2, g3, g4, g5, g6, g7, g8, g9, hf⟩
  refine x_aload_n C dX5_init_87 rfl ?_
  refine x_bipush C dX5_init_88 ⟨by decide, by decide⟩ ?_
  refine x_newI (N := 48) C dX5_init_90 gk_ar_int rfl (Nat.le_of_ble_eq_true rfl) (Nat.le_of_ble_eq_true rfl) (Nat.le_of_ble_eq_true rfl) ?_
  refine x_putF C hN dX5_init_92 kfX5_47 kx_5_17 (by decide +kernel) rfl rfl ((mu_ne _ _ (by omega)).trans h0) (Nat.le_of_ble_eq_true rfl) ?_
  refine x_hide (n := h + 11) (fun w1 => w1 h = some (co 5 [vi 0, vr (h + 1), vi 0, vr (h + 2), vr (h + 3), vr (h + 4), vi 0, vr (h + 5), vr (h + 6), vi 1, vi 8, vi 0, vi 4, vi 0, vr (h + 7), vr (h + 8), vr (h + 9), vr (h + 10), vn, vi 0, vi 0, vn, vn, vn, vi 0, vn, vi 0, vn, vi 0, vn, vn, vn, vn, vi 0, vi 0, vn, vn, vi 0, vi 0, vi 0, vn]) ∧ w1 (h + 1) = some (ca (List.replicate 41 0)) ∧ w1 (h + 2) = some (ca (List.replicate 5 0)) ∧ w1 (h + 3) = some (ca (List.replicate 5 0)) ∧ w1 (h + 4) = some (ca (List.replicate 5 0)) ∧ w1 (h + 5) = some (ca (List.replicate 5 0)) ∧ w1 (h + 6) = some (ca (List.replicate 5 0)) ∧ w1 (h + 7) = some (ca (List.replicate 48 0)) ∧ w1 (h + 8) = some (ca (List.replicate 48 0)) ∧ w1 (h + 9) = some (ca (List.replicate 48 0)) ∧ w1 (h + 10) = some (ca (List.replicate 48 0)) ∧ frR w w1 h (h + 23)) ⟨mu_eq _ _ _, (mu_ne _ _ (by omega)).trans ((mu_ne _ _ (by omega)).trans g1), (mu_ne _ _ (by omega)).trans ((mu_ne _ _ (by omega)).trans g2), (mu_ne _ _ (by omega)).trans ((mu_ne _ _ (by omega)).trans g3), (mu_ne _ _ (by omega)).trans ((mu_ne _ _ (by omega)).trans g4), (mu_ne _ _ (by omega)).trans ((mu_ne _ _ (by omega)).trans g5), (mu_ne _ _ (by omega)).trans ((mu_ne _ _ (by omega)).trans g6), (mu_ne _ _ (by omega)).trans ((mu_ne _ _ (by omega)).trans g7), (mu_ne _ _ (by omega)).trans ((mu_ne _ _ (by omega)).trans g8), (mu_ne _ _ (by omega)).trans ((mu_ne _ _ (by omega)).trans g9), (mu_ne _ _ (by omega)).trans (mu_eq _ _ _), fun a ha => by rw [mu_ne _ _ (by omega), mu_ne _ _ (by omega), hf a ha]⟩ ?_
  rintro w1 ⟨h0, g1, g2, g3, g4, g5, g6, g7, g8, g9, g10, hf⟩
  refine x_aload_n C dX5_init_95 rfl ?_
  refine x_bipush C dX5_init_96 ⟨by decide, by decide⟩ ?_
  refine x_newI (N := 48) C dX5_init_98 gk_ar_int rfl (Nat.le_of_ble_eq_true rfl) (Nat.le_of_ble_eq_true rfl) (Nat.le_of_ble_eq_true rfl) ?_
  refine x_putF C hN dX5_init_100 kfX5_50 kx_5_18 (by decide +kernel) rfl rfl ((mu_ne _ _ (by omega)).trans h0) (Nat.le_of_ble_eq_true rfl) ?_
  refine x_hide (n := h + 12) (fun w1 => w1 h = some (co 5 [vi 0, vr (h + 1), vi 0, vr (h + 2), vr (h + 3), vr (h + 4), vi 0, vr (h + 5), vr (h + 6), vi 1, vi 8, vi 0, vi 4, vi 0, vr (h + 7), vr (h + 8), vr (h + 9), vr (h + 10), vr (h + 11), vi 0, vi 0, vn, vn, vn, vi 0, vn, vi 0, vn, vi 0, vn, vn, vn, vn, vi 0, vi 0, vn, vn, vi 0, vi 0, vi 0, vn]) ∧ w1 (h + 1) = some (ca (List.replicate 41 0)) ∧ w1 (h + 2) = some (ca (List.replicate 5 0)) ∧ w1 (h + 3) = some (ca (List.replicate 5 0)) ∧ w1 (h + 4) = some (ca (List.replicate 5 0)) ∧ w1 (h + 5) = some (ca (List.replicate 5 0)) ∧ w1 (h + 6) = some (ca (List.replicate 5 0)) ∧ w1 (h + 7) = some (ca (List.replicate 48 0)) ∧ w1 (h + 8) = some (ca (List.replicate 48 0)) ∧ w1 (h + 9) = some (ca (List.replicate 48 0)) ∧ w1 (h + 10) = some (ca (List.replicate 48 0)) ∧ w1 (h + 11) = some (ca (List.replicate 48 0)) ∧ frR w w1 h (h + 23)) ⟨mu_eq _ _ _, (mu_ne _ _ (by omega)).trans ((mu_ne _ _ (by omega)).trans g1), (mu_ne _ _ (by omega)).trans ((mu_ne _ _ (by omega)).trans g2), (mu_ne _ _ (by omega)).trans ((mu_ne _ _ (by omega)).trans g3), (mu_ne _ _ (by omega)).trans ((mu_ne _ _ (by omega)).trans g4), (mu_ne _ _ (by omega)).trans ((mu_ne _ _ (by omega)).trans g5), (mu_ne _ _ (by omega)).trans ((mu_ne _ _ (by omega)).trans g6), (mu_ne _ _ (by omega)).trans ((mu_ne _ _ (by omega)).trans g7), (mu_ne _ _ (by omega)).trans ((mu_ne _ _ (by omega)).trans g8), (mu_ne _ _ (by omega)).trans ((mu_ne _ _ (by omega)).trans g9), (mu_ne _ _ (by omega)).trans ((mu_ne _ _ (by omega)).trans g10), (mu_ne _ _ (by omega)).trans (mu_eq _ _ _), fun a ha => by rw [mu_ne _ _ (by omega), mu_ne _ _ (by omega), hf a ha]⟩ ?_
  rintro w1 ⟨h0, g1, g2, g3, g4, g5, g6, g7, g8, g9, g10, g11, hf⟩
  refine x_aload_n C dX5_init_103 rfl ?_
  refine x_bipush C dX5_init_104 ⟨by decide, by decide⟩ ?_
  refine x_newI (N := 90) C dX5_init_106 gk_ar_int rfl (Nat.le_of_ble_eq_true rfl) (Nat.le_of_ble_eq_true rfl) (Nat.le_of_ble_eq_true rfl) ?_
  refine x_putF C hN dX5_init_108 kfX5_53 kx_5_21 (by decide +kernel) rfl rfl ((mu_ne _ _ (by omega)).trans h0) (Nat.le_of_ble_eq_true rfl) ?_
  refine x_hide (n := h + 13) (fun w1 => w1 h = some (co 5 [vi 0, vr (h + 1), vi 0, vr (h + 2), vr (h + 3), vr (h + 4), vi 0, vr (h + 5), vr (h + 6), vi 1, vi 8, vi 0, vi 4, vi 0, vr (h + 7), vr (h + 8), vr (h + 9), vr (h + 10), vr (h + 11), vi 0, vi 0, vr (h + 12), vn, vn, vi 0, vn, vi 0, vn, vi 0, vn, vn, vn, vn, vi 0, vi 0, vn, vn, vi 0, vi 0, vi 0, vn]) ∧ w1 (h + 1) = some (ca (List.replicate 41 0)) ∧ w1 (h + 2) = some (ca (List.replicate 5 0)) ∧ w1 (h + 3) = some (ca (List.replicate 5 0)) ∧ w1 (h + 4) = some (ca (List.replicate 5 0)) ∧ w1 (h + 5) = some (ca (List.replicate 5 0)) ∧ w1 (h + 6) = some (ca (List.replicate 5 0)) ∧ w1 (h + 7) = some (ca (List.replicate 48 0)) ∧ w1 (h + 8) = some (ca (List.replicate 48 0)) ∧ w1 (h + 9) = some (ca (List.replicate 48 0)) ∧ w1 (h + 10) = some (ca (List.replicate 48 0)) ∧ w1 (h + 11) = some (ca (List.replicate 48 0)) ∧ w1 (h + 12) = some (ca (List.replicate 90 0)) ∧ frR w w1 h (h + 23)) ⟨mu_eq _ _ _, (mu_ne _ _ (by omega)).trans ((mu_ne _ _ (by omega)).trans g1), (mu_ne _ _ (by omega)).trans ((mu_ne _ _ (by omega)).trans g2), (mu_ne _ _ (by omega)).trans ((mu_ne _ _ (by omega)).trans g3), (mu_ne _ _ (by omega)).trans ((mu_ne _ _ (by omega)).trans g4), (mu_ne _ _ (by omega)).trans ((mu_ne _ _ (by omega)).trans g5), (mu_ne _ _ (by omega)).trans ((mu_ne _ _ (by omega)).trans g6), (mu_ne _ _ (by omega)).trans ((mu_ne _ _ (by omega)).trans g7), (mu_ne _ _ (by omega)).trans ((mu_ne _ _ (by omega)).trans g8), (mu_ne _ _ (by omega)).trans ((mu_ne _ _ (by omega)).trans g9), (mu_ne _ _ (by omega)).trans ((mu_ne _ _ (by omega)).trans g10), (mu_ne _ _ (by omega)).trans ((mu_ne _ _ (by omega)).trans g11), (mu_ne _ _ (by omega)).trans (mu_eq _ _ _), fun a ha => by rw [mu_ne _ _ (by omega), mu_ne _ _ (by omega), hf a ha]⟩ ?_
  rintro w1 ⟨h0, g1, g2, g3, g4, g5, g6, g7, g8, g9, g10, g11, g12, hf⟩
  refine x_aload_n C dX5_init_111 rfl ?_
  refine x_bipush C dX5_init_112 ⟨by decide, by decide⟩ ?_
  refine x_newI (N := 90) C dX5_init_114 gk_ar_int rfl (Nat.le_of_ble_eq_true rfl) (Nat.le_of_ble_eq_true rfl) (Nat.le_of_ble_eq_true rfl) ?_
  refine x_putF C hN dX5_init_116 kfX5_56 kx_5_22 (by decide +kernel) rfl rfl ((mu_ne _ _ (by omega)).trans h0) (Nat.le_of_ble_eq_true rfl) ?_
  refine x_hide (n := h + 14) (fun w1 => w1 h = some (co 5 [vi 0, vr (h + 1), vi 0, vr (h + 2), vr (h + 3), vr (h + 4), vi 0, vr (h + 5), vr (h + 6), vi 1, vi 8, vi 0, vi 4, vi 0, vr (h + 7), vr (h + 8), vr (h + 9), vr (h + 10), vr (h + 11), vi 0, vi 0, vr (h + 12), vr (h + 13), vn, vi 0, vn, vi 0, vn, vi 0, vn, vn, vn, vn, vi 0, vi 0, vn, vn, vi 0, vi 0, vi 0, vn]) ∧ w1 (h + 1) = some (ca (List.replicate 41 0)) ∧ w1 (h + 2) = some (ca (List.replicate 5 0)) ∧ w1 (h + 3) = some (ca (List.replicate 5 0)) ∧ w1 (h + 4) = some (ca (List.replicate 5 0)) ∧ w1 (h + 5) = some (ca (List.replicate 5 0)) ∧ w1 (h + 6) = some (ca (List.replicate 5 0)) ∧ w1 (h + 7) = some (ca (List.replicate 48 0)) ∧ w1 (h + 8) = some (ca (List.replicate 48 0)) ∧ w1 (h + 9) = some (ca (List.replicate 48 0)) ∧ w1 (h + 10) = some (ca (List.replicate 48 0)) ∧ w1 (h + 11) = some (ca (List.replicate 48 0)) ∧ w1 (h + 12) = some (ca (List.replicate 90 0)) ∧ w1 (h + 13) = some (ca (List.replicate 90 0)) ∧ frR w w1 h (h + 23)) ⟨mu_eq _ _ _, (mu_ne _ _ (by omega)).trans ((mu_ne _ _ (by omega)).trans g1), (mu_ne _ _ (by omega)).trans ((mu_ne _ _ (by omega)).trans g2), (mu_ne _ _ (by omega)).trans ((mu_ne _ _ (by omega)).trans g3), (mu_ne _ _ (by omega)).trans ((mu_ne _ _ (by omega)).trans g4), (mu_ne _ _ (by omega)).trans ((mu_ne _ _ (by omega)).trans g5), (mu_ne _ _ (by omega)).trans ((mu_ne _ _ (by omega)).trans g6), (mu_ne _ _ (by omega)).trans ((mu_ne _ _ (by omega)).trans g7), (mu_ne _ _ (by omega)).trans ((mu_ne _ _ (by omega)).trans g8), (mu_ne _ _ (by omega)).trans ((mu_ne _ _ (by omega)).trans g9), (mu_ne _ _ (by omega)).trans ((mu_ne _ _ (by omega)).trans g10), (mu_ne _ _ (by omega)).trans ((mu_ne _ _ (by omega)).trans g11), (mu_ne _ _ (by omega)).trans ((mu_ne _ _ (by omega)).trans g12), (mu_ne _ _ (by omega)).trans (mu_eq _ _ _), fun a ha => by rw [mu_ne _ _ (by omega), mu_ne _ _ (by omega), hf a ha]⟩ ?_
  rintro w1 ⟨h0, g1, g2, g3, g4, g5, g6, g7, g8, g9, g10, g11, g12, g13, hf⟩
  refine x_aload_n C dX5_init_119 rfl ?_
  refine x_sipush C dX5_init_120 ⟨by decide, by decide⟩ ?_
  refine x_newI (N := 544) C dX5_init_123 gk_ar_int rfl (Nat.le_of_ble_eq_true rfl) (Nat.le_of_ble_eq_true rfl) (Nat.le_of_ble_eq_true rfl) ?_
  refine x_putF C hN dX5_init_125 kfX5_59 kx_5_23 (by decide +kernel) rfl rfl ((mu_ne _ _ (by omega)).trans h0) (Nat.le_of_ble_eq_true rfl) ?_
  refine x_hide (n := h + 15) (fun w1 => w1 h = some (co 5 [vi 0, vr (h + 1), vi 0, vr (h + 2), vr (h + 3), vr (h + 4), vi 0, vr (h + 5), vr (h + 6), vi 1, vi 8, vi 0, vi 4, vi 0, vr (h + 7), vr (h + 8), vr (h + 9), vr (h + 10), vr (h + 11), vi 0, vi 0, vr (h + 12), vr (h + 13), vr (h + 14), vi 0, vn, vi 0, vn, vi 0, vn, vn, vn, vn, vi 0, vi 0, vn, vn, vi 0, vi 0, vi 0, vn]) ∧ w1 (h + 1) = some (ca (List.replicate 41 0)) ∧ w1 (h + 2) = some (ca (List.replicate 5 0)) ∧ w1 (h + 3) = some (ca (List.replicate 5 0)) ∧ w1 (h + 4) = some (ca (List.replicate 5 0)) ∧ w1 (h + 5) = some (ca (List.replicate 5 0)) ∧ w1 (h + 6) = some (ca (List.replicate 5 0)) ∧ w1 (h + 7) = some (ca (List.replicate 48 0)) ∧ w1 (h + 8) = some (ca (List.replicate 48 0)) ∧ w1 (h + 9) = some (ca (List.replicate 48 0)) ∧ w1 (h + 10) = some (ca (List.replicate 48 0)) ∧ w1 (h + 11) = some (ca (List.replicate 48 0)) ∧ w1 (h + 12) = some (ca (List.replicate 90 0)) ∧ w1 (h + 13) = some (ca (List.replicate 90 0)) ∧ w1 (h + 14) = some (ca (List.replicate 544 0)) ∧ frR w w1 h (h + 23)) ⟨mu_eq _ _ _, (mu_ne _ _ (by omega)).trans ((mu_ne _ _ (by omega)).trans g1), (mu_ne _ _ (by omega)).trans ((mu_ne _ _ (by omega)).trans g2), (mu_ne _ _ (by omega)).trans ((mu_ne _ _ (by omega)).trans g3), (mu_ne _ _ (by omega)).trans ((mu_ne _ _ (by omega)).trans g4), (mu_ne _ _ (by omega)).trans ((mu_ne _ _ (by omega)).trans g5), (mu_ne _ _ (by omega)).trans ((mu_ne _ _ (by omega)).trans g6), (mu_ne _ _ (by omega)).trans ((mu_ne _ _ (by omega)).trans g7), (mu_ne _ _ (by omega)).trans ((mu_ne _ _ (by omega)).trans g8), (mu_ne _ _ (by omega)).trans ((mu_ne _ _ (by omega)).trans g9), (mu_ne _ _ (by omega)).trans ((mu_ne _ _ (by omega)).trans g10), (mu_ne _ _ (by omega)).trans ((mu_ne _ _ (by omega)).trans g11), (mu_ne _ _ (by omega)).trans ((mu_ne _ _ (by omega)).trans g12), (mu_ne _ _ (by omega)).trans ((mu_ne _ _ (by omega)).trans g13), (mu_ne _ _ (by omega)).trans (mu_eq _ _ _), fun a ha => by rw [mu_ne _ _ (by omega), mu_ne _ _ (by omega), hf a ha]⟩ ?_
  rintro w1 ⟨h0, g1, g2, g3, g4, g5, g6, g7, g8, g9, g10, g11, g12, g13, g14, hf⟩
  refine x_aload_n C dX5_init_128 rfl ?_
  refine x_sipush C dX5_init_129 ⟨by decide, by decide⟩ ?_
  refine x_newI (N := 136) C dX5_init_132 gk_ar_int rfl (Nat.le_of_ble_eq_true rfl) (Nat.le_of_ble_eq_true rfl) (Nat.le_of_ble_eq_true rfl) ?_
  refine x_putF C hN dX5_init_134 kfX5_62 kx_5_25 (by decide +kernel) rfl rfl ((mu_ne _ _ (by omega)).trans h0) (Nat.le_of_ble_eq_true rfl) ?_
  refine x_hide (n := h + 16) (fun w1 => w1 h = some (co 5 [vi 0, vr (h + 1), vi 0, vr (h + 2), vr (h + 3), vr (h + 4), vi 0, vr (h + 5), vr (h + 6), vi 1, vi 8, vi 0, vi 4, vi 0, vr (h + 7), vr (h + 8), vr (h + 9), vr (h + 10), vr (h + 11), vi 0, vi 0, vr (h + 12), vr (h + 13), vr (h + 14), vi 0, vr (h + 15), vi 0, vn, vi 0, vn, vn, vn, vn, vi 0, vi 0, vn, vn, vi 0, vi 0, vi 0, vn]) ∧ w1 (h + 1) = some (ca (List.replicate 41 0)) ∧ w1 (h + 2) = some (ca (List.replicate 5 0)) ∧ w1 (h + 3) = some (ca (List.replicate 5 0)) ∧ w1 (h + 4) = some (ca (List.replicate 5 0)) ∧ w1 (h + 5) = some (ca (List.replicate 5 0)) ∧ w1 (h + 6) = some (ca (List.replicate 5 0)) ∧ w1 (h + 7) = some (ca (List.replicate 48 0)) ∧ w1 (h + 8) = some (ca (List.replicate 48 0)) ∧ w1 (h + 9) = some (ca (List.replicate 48 0)) ∧ w1 (h + 10) = some (ca (List.replicate 48 0)) ∧ w1 (h + 11) = some (ca (List.replicate 48 0)) ∧ w1 (h + 12) = some (ca (List.replicate 90 0)) ∧ w1 (h + 13) = some (ca (List.replicate 90 0)) ∧ w1 (h + 14) = some (ca (List.replicate 544 0)) ∧ w1 (h + 15) = some (ca (List.replicate 136 0)) ∧ frR w w1 h (h + 23)) ⟨mu_eq _ _ _, (mu_ne _ _ (by omega)).trans ((mu_ne _ _ (by omega)).trans g1), (mu_ne _ _ (by omega)).trans ((mu_ne _ _ (by omega)).trans g2), (mu_ne _ _ (by omega)).trans ((mu_ne _ _ (by omega)).trans g3), (mu_ne _ _ (by omega)).trans ((mu_ne _ _ (by omega)).trans g4), (mu_ne _ _ (by omega)).trans ((mu_ne _ _ (by omega)).trans g5), (mu_ne _ _ (by omega)).trans ((mu_ne _ _ (by omega)).trans g6), (mu_ne _ _ (by omega)).trans ((mu_ne _ _ (by omega)).trans g7), (mu_ne _ _ (by omega)).trans ((mu_ne _ _ (by omega)).trans g8), (mu_ne _ _ (by omega)).trans ((mu_ne _ _ (by omega)).trans g9), (mu_ne _ _ (by omega)).trans ((mu_ne _ _ (by omega)).trans g10), (mu_ne _ _ (by omega)).trans ((mu_ne _ _ (by omega)).trans g11), (mu_ne _ _ (by omega)).trans ((mu_ne _ _ (by omega)).trans g12), (mu_ne _ _ (by omega)).trans ((mu_ne _ _ (by omega)).trans g13), (mu_ne _ _ (by omega)).trans ((mu_ne _ _ (by omega)).trans g14), (mu_ne _ _ (by omega)).trans (mu_eq _ _ _), fun a ha => by rw [mu_ne _ _ (by omega), mu_ne _ _ (by omega), hf a ha]⟩ ?_
  rintro w1 ⟨h0, g1, g2, g3, g4, g5, g6, g7, g8, g9, g10, g11, g12, g13, g14, g15, hf⟩
  refine x_aload_n C dX5_init_137 rfl ?_
  refine x_bipush C dX5_init_138 ⟨by decide, by decide⟩ ?_
  refine x_newI (N := 68) C dX5_init_140 gk_ar_int rfl (Nat.le_of_ble_eq_true rfl) (Nat.le_of_ble_eq_true rfl) (Nat.le_of_ble_eq_true rfl) ?_
  refine x_putF C hN dX5_init_142 kfX5_65 kx_5_27 (by decide +kernel) rfl rfl ((mu_ne _ _ (by omega)).trans h0) (Nat.le_of_ble_eq_true rfl) ?_
  refine x_hide (n := h + 17) (fun w1 => w1 h = some (co 5 [vi 0, vr (h + 1), vi 0, vr (h + 2), vr (h + 3), vr (h + 4), vi 0, vr (h + 5), vr (h + 6), vi 1, vi 8, vi 0, vi 4, vi 0, vr (h + 7), vr (h + 8), vr (h + 9), vr (h + 10), vr (h + 11), vi 0, vi 0, vr (h + 12), vr (h + 13), vr (h + 14), vi 0, vr (h + 15), vi 0, vr (h + 16), vi 0, vn, vn, vn, vn, vi 0, vi 0, vn, vn, vi 0, vi 0, vi 0, vn]) ∧ w1 (h + 1) = some (ca (List.replicate 41 0)) ∧ w1 (h + 2) = some (ca (List.replicate 5 0)) ∧ w1 (h + 3) = some (ca (List.replicate 5 0)) ∧ w1 (h + 4) = some (ca (List.replicate 5 0)) ∧ w1 (h + 5) = some (ca (List.replicate 5 0)) ∧ w1 (h + 6) = some (ca (List.replicate 5 0)) ∧ w1 (h + 7) = some (ca (List.replicate 48 0)) ∧ w1 (h + 8) = some (ca (List.replicate 48 0)) ∧ w1 (h + 9) = some (ca (List.replicate 48 0)) ∧ w1 (h + 10) = some (ca (List.replicate 48 0)) ∧ w1 (h + 11) = some (ca (List.replicate 48 0)) ∧ w1 (h + 12) = some (ca (List.replicate 90 0)) ∧ w1 (h + 13) = some (ca (List.replicate 90 0)) ∧ w1 (h + 14) = some (ca (List.replicate 544 0)) ∧ w1 (h + 15) = some (ca (List.replicate 136 0)) ∧ w1 (h + 16) = some (ca (List.replicate 68 0)) ∧ frR w w1 h (h + 23)) ⟨mu_eq _ _ _, (mu_ne _ _ (by omega)).trans ((mu_ne _ _ (by omega)).trans g1), (mu_ne _ _ (by omega)).trans ((mu_ne _ _ (by omega)).trans g2), (mu_ne _ _ (by omega)).trans ((mu_ne _ _ (by omega)).trans g3), (mu_ne _ _ (by omega)).trans ((mu_ne _ _ (by omega)).trans g4), (mu_ne _ _ (by omega)).trans ((mu_ne _ _ (by omega)).trans g5), (mu_ne _ _ (by omega)).trans ((mu_ne _ _ (by omega)).trans g6), (mu_ne _ _ (by omega)).trans ((mu_ne _ _ (by omega)).trans g7), (mu_ne _ _ (by omega)).trans ((mu_ne _ _ (by omega)).trans g8), (mu_ne _ _ (by omega)).trans ((mu_ne _ _ (by omega)).trans g9), (mu_ne _ _ (by omega)).trans ((mu_ne _ _ (by omega)).trans g10), (mu_ne _ _ (by omega)).trans ((mu_ne _ _ (by omega)).trans g11), (mu_ne _ _ (by omega)).trans ((mu_ne _ _ (by omega)).trans g12), (mu_ne _ _ (by omega)).trans ((mu_ne _ _ (by omega)).trans g13), (mu_ne _ _ (by omega)).trans ((mu_ne _ _ (by omega)).trans g14), (mu_ne _ _ (by omega)).trans ((mu_ne _ _ (by omega)).trans g15), (mu_ne _ _ (by omega)).trans (mu_eq _ _ _), fun a ha => by rw [mu_ne _ _ (by omega), mu_ne _ _ (by omega), hf a ha]⟩ ?_
  rintro w1 ⟨h0, g1, g2, g3, g4, g5, g6, g7, g8, g9, g10, g11, g12, g13, g14, g15, g16, hf⟩
  refine x_aload_n C dX5_init_145 rfl ?_
  refine x_bipush C dX5_init_146 ⟨by decide, by decide⟩ ?_
  refine x_newI (N := 48) C dX5_init_148 gk_ar_int rfl (Nat.le_of_ble_eq_true rfl) (Nat.le_of_ble_eq_true rfl) (Nat.le_of_ble_eq_true rfl) ?_
  refine x_putF C hN dX5_init_150 kfX5_68 kx_5_29 (by decide +kernel) rfl rfl ((mu_ne _ _ (by omega)).trans h0) (Nat.le_of_ble_eq_true rfl) ?_
  refine x_hide (n := h + 18) (fun w1 => w1 h = some (co 5 [vi 0, vr (h + 1), vi 0, vr (h + 2), vr (h + 3), vr (h + 4), vi 0, vr (h + 5), vr (h + 6), vi 1, vi 8, vi 0, vi 4, vi 0, vr (h + 7), vr (h + 8), vr (h + 9), vr (h + 10), vr (h + 11), vi 0, vi 0, vr (h + 12), vr (h + 13), vr (h + 14), vi 0, vr (h + 15), vi 0, vr (h + 16), vi 0, vr (h + 17), vn, vn, vn, vi 0, vi 0, vn, vn, vi 0, vi 0, vi 0, vn]) ∧ w1 (h + 1) = some (ca (List.replicate 41 0)) ∧ w1 (h + 2) = some (ca (List.replicate 5 0)) ∧ w1 (h + 3) = some (ca (List.replicate 5 0)) ∧ w1 (h + 4) = some (ca (List.replicate 5 0)) ∧ w1 (h + 5) = some (ca (List.replicate 5 0)) ∧ w1 (h + 6) = some (ca (List.replicate 5 0)) ∧ w1 (h + 7) = some (ca (List.replicate 48 0)) ∧ w1 (h + 8) = some (ca (List.replicate 48 0)) ∧ w1 (h + 9) = some (ca (List.replicate 48 0)) ∧ w1 (h + 10) = some (ca (List.replicate 48 0)) ∧ w1 (h + 11) = some (ca (List.replicate 48 0)) ∧ w1 (h + 12) = some (ca (List.replicate 90 0)) ∧ w1 (h + 13) = some (ca (List.replicate 90 0)) ∧ w1 (h + 14) = some (ca (List.replicate 544 0)) ∧ w1 (h + 15) = some (ca (List.replicate 136 0)) ∧ w1 (h + 16) = some (ca (List.replicate 68 0)) ∧ w1 (h + 17) = some (ca (List.replicate 48 0)) ∧ frR w w1 h (h + 23)) ⟨mu_eq _ _ _, (mu_ne _ _ (by omega)).trans ((mu_ne _ _ (by omega)).trans g1), (mu_ne _ _ (by omega)).trans ((mu_ne _ _ (by omega)).trans g2), (mu_ne _ _ (by omega)).trans ((mu_ne _ _ (by omega)).trans g3), (mu_ne _ _ (by omega)).trans ((mu_ne _ _ (by omega)).trans g4), (mu_ne _ _ (by omega)).trans ((mu_ne _ _ (by omega)).trans g5), (mu_ne _ _ (by omega)).trans ((mu_ne _ _ (by omega)).trans g6), (mu_ne _ _ (by omega)).trans ((mu_ne _ _ (by omega)).trans g7), (mu_ne _ _ (by omega)).trans ((mu_ne _ _ (by omega)).trans g8), (mu_ne _ _ (by omega)).trans ((mu_ne _ _ (by omega)).trans g9), (mu_ne _ _ (by omega)).trans ((mu_ne _ _ (by omega)).trans g10), (mu_ne _ _ (by omega)).trans ((mu_ne _ _ (by omega)).trans g11), (mu_ne _ _ (by omega)).trans ((mu_ne _ _ (by omega)).trans g12), (mu_ne _ _ (by omega)).trans ((mu_ne _ _ (by omega)).trans g13), (mu_ne _ _ (by omega)).trans ((mu_ne _ _ (by omega)).trans g14), (mu_ne _ _ (by omega)).trans ((mu_ne _ _ (by omega)).trans g15), (mu_ne _ _ (by omega)).trans ((mu_ne _ _ (by omega)).trans g16), (mu_ne _ _ (by omega)).trans (mu_eq _ _ _), fun a ha => by rw [mu_ne _ _ (by omega), mu_ne _ _ (by omega), hf a ha]⟩ ?_
  rintro w1 ⟨h0, g1, g2, g3, g4, g5, g6, g7, g8, g9, g10, g11, g12, g13, g14, g15, g16, g17, hf⟩
  refine x_aload_n C dX5_init_153 rfl ?_
  refine x_bipush C dX5_init_154 ⟨by decide, by decide⟩ ?_
  refine x_newI (N := 48) C dX5_init_156 gk_ar_int rfl (Nat.le_of_ble_eq_true rfl) (Nat.le_of_ble_eq_true rfl) (Nat.le_of_ble_eq_true rfl) ?_
  refine x_putF C hN dX5_init_158 kfX5_71 kx_5_30 (by decide +kernel) rfl rfl ((mu_ne _ _ (by omega)).trans h0) (Nat.le_of_ble_eq_true rfl) ?_
  refine x_hide (n := h + 19) (fun w1 => w1 h = some (co 5 [vi 0, vr (h + 1), vi 0, vr (h + 2), vr (h + 3), vr (h + 4), vi 0, vr (h + 5), vr (h + 6), vi 1, vi 8, vi 0, vi 4, vi 0, vr (h + 7), vr (h + 8), vr (h + 9), vr (h + 10), vr (h + 11), vi 0, vi 0, vr (h + 12), vr (h + 13), vr (h + 14), vi 0, vr (h + 15), vi 0, vr (h + 16), vi 0, vr (h + 17), vr (h + 18), vn, vn, vi 0, vi 0, vn, vn, vi 0, vi 0, vi 0, vn]) ∧ w1 (h + 1) = some (ca (List.replicate 41 0)) ∧ w1 (h + 2) = some (ca (List.replicate 5 0)) ∧ w1 (h + 3) = some (ca (List.replicate 5 0)) ∧ w1 (h + 4) = some (ca (List.replicate 5 0)) ∧ w1 (h + 5) = some (ca (List.replicate 5 0)) ∧ w1 (h + 6) = some (ca (List.replicate 5 0)) ∧ w1 (h + 7) = some (ca (List.replicate 48 0)) ∧ w1 (h + 8) = some (ca (List.replicate 48 0)) ∧ w1 (h + 9) = some (ca (List.replicate 48 0)) ∧ w1 (h + 10) = some (ca (List.replicate 48 0)) ∧ w1 (h + 11) = some (ca (List.replicate 48 0)) ∧ w1 (h + 12) = some (ca (List.replicate 90 0)) ∧ w1 (h + 13) = some (ca (List.replicate 90 0)) ∧ w1 (h + 14) = some (ca (List.replicate 544 0)) ∧ w1 (h + 15) = some (ca (List.replicate 136 0)) ∧ w1 (h + 16) = some (ca (List.replicate 68 0)) ∧ w1 (h + 17) = some (ca (List.replicate 48 0)) ∧ w1 (h + 18) = some (ca (List.replicate 48 0)) ∧ frR w w1 h (h + 23)) ⟨mu_eq _ _ _, (mu_ne _ _ (by omega)).trans ((mu_ne _ _ (by omega)).trans g1), (mu_ne _ _ (by omega)).trans ((mu_ne _ _ (by omega)).trans g2), (mu_ne _ _ (by omega)).trans ((mu_ne _ _ (by omega)).trans g3), (mu_ne _ _ (by omega)).trans ((mu_ne _ _ (by omega)).trans g4), (mu_ne _ _ (by omega)).trans ((mu_ne _ _ (by omega)).trans g5), (mu_ne _ _ (by omega)).trans ((mu_ne _ _ (by omega)).trans g6), (mu_ne _ _ (by omega)).trans ((mu_ne _ _ (by omega)).trans g7), (mu_ne _ _ (by omega)).trans ((mu_ne _ _ (by omega)).trans g8), (mu_ne _ _ (by omega)).trans ((mu_ne _ _ (by omega)).trans g9), (mu_ne _ _ (by omega)).trans ((mu_ne _ _ (by omega)).trans g10), (mu_ne _ _ (by omega)).trans ((mu_ne _ _ (by omega)).trans g11), (mu_ne _ _ (by omega)).trans ((mu_ne _ _ (by omega)).trans g12), (mu_ne _ _ (by omega)).trans ((mu_ne _ _ (by omega)).trans g13), (mu_ne _ _ (by omega)).trans ((mu_ne _ _ (by omega)).trans g14), (mu_ne _ _ (by omega)).trans ((mu_ne _ _ (by omega)).trans g15), (mu_ne _ _ (by omega)).trans ((mu_ne _ _ (by omega)).trans g16), (mu_ne _ _ (by omega)).trans ((mu_ne _ _ (by omega)).trans g17), (mu_ne _ _ (by omega)).trans (mu_eq _ _ _), fun a ha => by rw [mu_ne _ _ (by omega), mu_ne _ _ (by omega), hf a ha]⟩ ?_
  rintro w1 ⟨h0, g1, g2, g3, g4, g5, g6, g7, g8, g9, g10, g11, g12, g13, g14, g15, g16, g17, g18, hf⟩
  refine x_aload_n C dX5_init_161 rfl ?_
  refine x_bipush C dX5_init_162 ⟨by decide, by decide⟩ ?_
  refine x_newI (N := 48) C dX5_init_164 gk_ar_int rfl (Nat.le_of_ble_eq_true rfl) (Nat.le_of_ble_eq_true rfl) (Nat.le_of_ble_eq_true rfl) ?_
  refine x_putF C hN dX5_init_166 kfX5_74 kx_5_31 (by decide +kernel) rfl rfl ((mu_ne _ _ (by omega)).trans h0) (Nat.le_of_ble_eq_true rfl) ?_
  refine x_hide (n := h + 20) (fun w1 => w1 h = some (co 5 [vi 0, vr (h + 1), vi 0, vr (h + 2), vr (h + 3), vr (h + 4), vi 0, vr (h + 5), vr (h + 6), vi 1, vi 8, vi 0, vi 4, vi 0, vr (h + 7), vr (h + 8), vr (h + 9), vr (h + 10), vr (h + 11), vi 0, vi 0, vr (h + 12), vr (h + 13), vr (h + 14), vi 0, vr (h + 15), vi 0, vr (h + 16), vi 0, vr (h + 17), vr (h + 18), vr (h + 19), vn, vi 0, vi 0, vn, vn, vi 0, vi 0, vi 0, vn]) ∧ w1 (h + 1) = some (ca (List.replicate 41 0)) ∧ w1 (h + 2) = some (ca (List.replicate 5 0)) ∧ w1 (h + 3) = some (ca (List.replicate 5 0)) ∧ w1 (h + 4) = some (ca (List.replicate 5 0)) ∧ w1 (h + 5) = some (ca (List.replicate 5 0)) ∧ w1 (h + 6) = some (ca (List.replicate 5 0)) ∧ w1 (h + 7) = some (ca (List.replicate 48 0)) ∧ w1 (h + 8) = some (ca (List.replicate 48 0)) ∧ w1 (h + 9) = some (ca (List.replicate 48 0)) ∧ w1 (h + 10) = some (ca (List.replicate 48 0)) ∧ w1 (h + 11) = some (ca (List.replicate 48 0)) ∧ w1 (h + 12) = some (ca (List.replicate 90 0)) ∧ w1 (h + 13) = some (ca (List.replicate 90 0)) ∧ w1 (h + 14) = some (ca (List.replicate 544 0)) ∧ w1 (h + 15) = some (ca (List.replicate 136 0)) ∧ w1 (h + 16) = some (ca (List.replicate 68 0)) ∧ w1 (h + 17) = some (ca (List.replicate 48 0)) ∧ w1 (h + 18) = some (ca (List.replicate 48 0)) ∧ w1 (h + 19) = some (ca (List.replicate 48 0)) ∧ frR w w1 h (h + 23)) ⟨mu_eq _ _ _, (mu_ne _ _ (by omega)).trans ((mu_ne _ _ (by omega)).trans g1), (mu_ne _ _ (by omega)).trans ((mu_ne _ _ (by omega)).trans g2), (mu_ne _ _ (by omega)).trans ((mu_ne _ _ (by omega)).trans g3), (mu_ne _ _ (by omega)).trans ((mu_ne _ _ (by omega)).trans g4), (mu_ne _ _ (by omega)).trans ((mu_ne _ _ (by omega)).trans g5), (mu_ne _ _ (by omega)).trans ((mu_ne _ _ (by omega)).trans g6), (mu_ne _ _ (by omega)).trans ((mu_ne _ _ (by omega)).trans g7), (mu_ne _ _ (by omega)).trans ((mu_ne _ _ (by omega)).trans g8), (mu_ne _ _ (by omega)).trans ((mu_ne _ _ (by omega)).trans g9), (mu_ne _ _ (by omega)).trans ((mu_ne _ _ (by omega)).trans g10), (mu_ne _ _ (by omega)).trans ((mu_ne _ _ (by omega)).trans g11), (mu_ne _ _ (by omega)).trans ((mu_ne _ _ (by omega)).trans g12), (mu_ne _ _ (by omega)).trans ((mu_ne _ _ (by omega)).trans g13), (mu_ne _ _ (by omega)).trans ((mu_ne _ _ (by omega)).trans g14), (mu_ne _ _ (by omega)).trans ((mu_ne _ _ (by omega)).trans g15), (mu_ne _ _ (by omega)).trans ((mu_ne _ _ (by omega)).trans g16), (mu_ne _ _ (by omega)).trans ((mu_ne _ _ (by omega)).trans g17), (mu_ne _ _ (by omega)).trans ((mu_ne _ _ (by omega)).trans g18), (mu_ne _ _ (by omega)).trans (mu_eq _ _ _), fun a ha => by rw [mu_ne _ _ (by omega), mu_ne _ _ (by omega), hf a ha]⟩ ?_
  rintro w1 ⟨h0, g1, g2, g3, g4, g5, g6, g7, g8, g9, g10, g11, g12, g13, g14, g15, g16, g17, g18, g19, hf⟩
  refine x_aload_n C dX5_init_169 rfl ?_
  refine x_bipush C dX5_init_170 ⟨by decide, by decide⟩ ?_
  refine x_newI (N := 48) C dX5_init_172 gk_ar_int rfl (Nat.le_of_ble_eq_true rfl) (Nat.le_of_ble_eq_true rfl) (Nat.le_of_ble_eq_true rfl) ?_
  refine x_putF C hN dX5_init_174 kfX5_77 kx_5_32 (by decide +kernel) rfl rfl ((mu_ne _ _ (by omega)).trans h0) (Nat.le_of_ble_eq_true rfl) ?_
  refine x_hide (n := h + 21) (fun w1 => w1 h = some (co 5 [vi 0, vr (h + 1), vi 0, vr (h + 2), vr (h + 3), vr (h + 4), vi 0, vr (h + 5), vr (h + 6), vi 1, vi 8, vi 0, vi 4, vi 0, vr (h + 7), vr (h + 8), vr (h + 9), vr (h + 10), vr (h + 11), vi 0, vi 0, vr (h + 12), vr (h + 13), vr (h + 14), vi 0, vr (h + 15), vi 0, vr (h + 16), vi 0, vr (h + 17), vr (h + 18), vr (h + 19), vr (h + 20), vi 0, vi 0, vn, vn, vi 0, vi 0, vi 0, vn]) ∧ w1 (h + 1) = some (ca (List.replicate 41 0)) ∧ w1 (h + 2) = some (ca (List.replicate 5 0)) ∧ w1 (h + 3) = some (ca (List.replicate 5 0)) ∧ w1 (h + 4) = some (ca (List.replicate 5 0)) ∧ w1 (h + 5) = some (ca (List.replicate 5 0)) ∧ w1 (h + 6) = some (ca (List.replicate 5 0)) ∧ w1 (h + 7) = some (ca (List.replicate 48 0)) ∧ w1 (h + 8) = some (ca (List.replicate 48 0)) ∧ w1 (h + 9) = some (ca (List.replicate 48 0)) ∧ w1 (h + 10) = some (ca (List.replicate 48 0)) ∧ w1 (h + 11) = some (ca (List.replicate 48 0)) ∧ w1 (h + 12) = some (ca (List.replicate 90 0)) ∧ w1 (h + 13) = some (ca (List.replicate 90 0)) ∧ w1 (h + 14) = some (ca (List.replicate 544 0)) ∧ w1 (h + 15) = some (ca (List.replicate 136 0)) ∧ w1 (h + 16) = some (ca (List.replicate 68 0)) ∧ w1 (h + 17) = some (ca (List.replicate 48 0)) ∧ w1 (h + 18) = some (ca (List.replicate 48 0)) ∧ w1 (h + 19) = some (ca (List.replicate 48 0)) ∧ w1 (h + 20) = some (ca (List.replicate 48 0)) ∧ frR w w1 h (h + 23)) ⟨mu_eq _ _ _, (mu_ne _ _ (by omega)).trans ((mu_ne _ _ (by omega)).trans g1), (mu_ne _ _ (by omega)).trans ((mu_ne _ _ (by omega)).trans g2), (mu_ne _ _ (by omega)).trans ((mu_ne _ _ (by omega)).trans g3), (mu_ne _ _ (by omega)).trans ((mu_ne _ _ (by omega)).trans g4), (mu_ne _ _ (by omega)).trans ((mu_ne _ _ (by omega)).trans g5), (mu_ne _ _ (by omega)).trans ((mu_ne _ _ (by omega)).trans g6), (mu_ne _ _ (by omega)).trans ((mu_ne _ _ (by omega)).trans g7), (mu_ne _ _ (by omega)).trans ((mu_ne _ _ (by omega)).trans g8), (mu_ne _ _ (by omega)).trans ((mu_ne _ _ (by omega)).trans g9), (mu_ne _ _ (by omega)).trans ((mu_ne _ _ (by omega)).trans g10), (mu_ne _ _ (by omega)).trans ((mu_ne _ _ (by omega)).trans g11), (mu_ne _ _ (by omega)).trans ((mu_ne _ _ (by omega)).trans g12), (mu_ne _ _ (by omega)).trans ((mu_ne _ _ (by omega)).trans g13), (mu_ne _ _ (by omega)).trans ((mu_ne _ _ (by omega)).trans g14), (mu_ne _ _ (by omega)).trans ((mu_ne _ _ (by omega)).trans g15), (mu_ne _ _ (by omega)).trans ((mu_ne _ _ (by omega)).trans g16), (mu_ne _ _ (by omega)).trans ((mu_ne _ _ (by omega)).trans g17), (mu_ne _ _ (by omega)).trans ((mu_ne _ _ (by omega)).trans g18), (mu_ne _ _ (by omega)).trans ((mu_ne _ _ (by omega)).trans g19), (mu_ne _ _ (by omega)).trans (mu_eq _ _ _), fun a ha => by rw [mu_ne _ _ (by omega), mu_ne _ _ (by omega), hf a ha]⟩ ?_
  rintro w1 ⟨h0, g1, g2, g3, g4, g5, g6, g7, g8, g9, g10, g11, g12, g13, g14, g15, g16, g17, g18, g19, g20, hf⟩
  refine x_aload_n C dX5_init_177 rfl ?_
  refine x_bipush C dX5_init_178 ⟨by decide, by decide⟩ ?_
  refine x_newI (N := 68) C dX5_init_180 gk_ar_int rfl (Nat.le_of_ble_eq_true rfl) (Nat.le_of_ble_eq_true rfl) (Nat.le_of_ble_eq_true rfl) ?_
  refine x_putF C hN dX5_init_182 kfX5_80 kx_5_35 (by decide +kernel) rfl rfl ((mu_ne _ _ (by omega)).trans h0) (Nat.le_of_ble_eq_true rfl) ?_
  refine x_hide (n := h + 22) (fun w1 => w1 h = some (co 5 [vi 0, vr (h + 1), vi 0, vr (h + 2), vr (h + 3), vr (h + 4), vi 0, vr (h + 5), vr (h + 6), vi 1, vi 8, vi 0, vi 4, vi 0, vr (h + 7), vr (h + 8), vr (h + 9), vr (h + 10), vr (h + 11), vi 0, vi 0, vr (h + 12), vr (h + 13), vr (h + 14), vi 0, vr (h + 15), vi 0, vr (h + 16), vi 0, vr (h + 17), vr (h + 18), vr (h + 19), vr (h + 20), vi 0, vi 0, vr (h + 21), vn, vi 0, vi 0, vi 0, vn]) ∧ w1 (h + 1) = some (ca (List.replicate 41 0)) ∧ w1 (h + 2) = some (ca (List.replicate 5 0)) ∧ w1 (h + 3) = some (ca (List.replicate 5 0)) ∧ w1 (h + 4) = some (ca (List.replicate 5 0)) ∧ w1 (h + 5) = some (ca (List.replicate 5 0)) ∧ w1 (h + 6) = some (ca (List.replicate 5 0)) ∧ w1 (h + 7) = some (ca (List.replicate 48 0)) ∧ w1 (h + 8) = some (ca (List.replicate 48 0)) ∧ w1 (h + 9) = some (ca (List.replicate 48 0)) ∧ w1 (h + 10) = some (ca (List.replicate 48 0)) ∧ w1 (h + 11) = some (ca (List.replicate 48 0)) ∧ w1 (h + 12) = some (ca (List.replicate 90 0)) ∧ w1 (h + 13) = some (ca (List.replicate 90 0)) ∧ w1 (h + 14) = some (ca (List.replicate 544 0)) ∧ w1 (h + 15) = some (ca (List.replicate 136 0)) ∧ w1 (h + 16) = some (ca (List.replicate 68 0)) ∧ w1 (h + 17) = some (ca (List.replicate 48 0)) ∧ w1 (h + 18) = some (ca (List.replicate 48 0)) ∧ w1 (h + 19) = some (ca (List.replicate 48 0)) ∧ w1 (h + 20) = some (ca (List.replicate 48 0)) ∧ w1 (h + 21) = some (ca (List.replicate 68 0)) ∧ frR w w1 h (h + 23)) ⟨mu_eq _ _ _, (mu_ne _ _ (by omega)).trans ((mu_ne _ _ (by omega)).trans g1), (mu_ne _ _ (by omega)).trans ((mu_ne _ _ (by omega)).trans g2), (mu_ne _ _ (by omega)).trans ((mu_ne _ _ (by omega)).trans g3), (mu_ne _ _ (by omega)).trans ((mu_ne _ _ (by omega)).trans g4), (mu_ne _ _ (by omega)).trans ((mu_ne _ _ (by omega)).trans g5), (mu_ne _ _ (by omega)).trans ((mu_ne _ _ (by omega)).trans g6), (mu_ne _ _ (by omega)).trans ((mu_ne _ _ (by omega)).trans g7), (mu_ne _ _ (by omega)).trans ((mu_ne _ _ (by omega)).trans g8), (mu_ne _ _ (by omega)).trans ((mu_ne _ _ (by omega)).trans g9), (mu_ne _ _ (by omega)).trans ((mu_ne _ _ (by omega)).trans g10), (mu_ne _ _ (by omega)).trans ((mu_ne _ _ (by omega)).trans g11), (mu_ne _ _ (by omega)).trans ((mu_ne _ _ (by omega)).trans g12), (mu_ne _ _ (by omega)).trans ((mu_ne _ _ (by omega)).trans g13), (mu_ne _ _ (by omega)).trans ((mu_ne _ _ (by omega)).trans g14), (mu_ne _ _ (by omega)).trans ((mu_ne _ _ (by omega)).trans g15), (mu_ne _ _ (by omega)).trans ((mu_ne _ _ (by omega)).trans g16), (mu_ne _ _ (by omega)).trans ((mu_ne _ _ (by omega)).trans g17), (mu_ne _ _ (by omega)).trans ((mu_ne _ _ (by omega)).trans g18), (mu_ne _ _ (by omega)).trans ((mu_ne _ _ (by omega)).trans g19), (mu_ne _ _ (by omega)).trans ((mu_ne _ _ (by omega)).trans g20), (mu_ne _ _ (by omega)).trans (mu_eq _ _ _), fun a ha => by rw [mu_ne _ _ (by omega), mu_ne _ _ (by omega), hf a ha]⟩ ?_
  rintro w1 ⟨h0, g1, g2, g3, g4, g5, g6, g7, g8, g9, g10, g11, g12, g13, g14, g15, g16, g17, g18, g19, g20, g21, hf⟩
  refine x_aload_n C dX5_init_185 rfl ?_
  refine x_sipush C dX5_init_186 ⟨by decide, by decide⟩ ?_
  refine x_newI (N := 200) C dX5_init_189 gk_ar_int rfl (Nat.le_of_ble_eq_true rfl) (Nat.le_of_ble_eq_true rfl) (Nat.le_of_ble_eq_true rfl) ?_
  refine x_putF C hN dX5_init_191 kfX5_83 kx_5_36 (by decide +kernel) rfl rfl ((mu_ne _ _ (by omega)).trans h0) (Nat.le_of_ble_eq_true rfl) ?_
  refine x_hide (n := h + 23) (fun w1 => w1 h = some (co 5 [vi 0, vr (h + 1), vi 0, vr (h + 2), vr (h + 3), vr (h + 4), vi 0, vr (h + 5), vr (h + 6), vi 1, vi 8, vi 0, vi 4, vi 0, vr (h + 7), vr (h + 8), vr (h + 9), vr (h + 10), vr (h + 11), vi 0, vi 0, vr (h + 12), vr (h + 13), vr (h + 14), vi 0, vr (h + 15), vi 0, vr (h + 16), vi 0, vr (h + 17), vr (h + 18), vr (h + 19), vr (h + 20), vi 0, vi 0, vr (h + 21), vr (h + 22), vi 0, vi 0, vi 0, vn]) ∧ w1 (h + 1) = some (ca (List.replicate 41 0)) ∧ w1 (h + 2) = some (ca (List.replicate 5 0)) ∧ w1 (h + 3) = some (ca (List.replicate 5 0)) ∧ w1 (h + 4) = some (ca (List.replicate 5 0)) ∧ w1 (h + 5) = some (ca (List.replicate 5 0)) ∧ w1 (h + 6) = some (ca (List.replicate 5 0)) ∧ w1 (h + 7) = some (ca (List.replicate 48 0)) ∧ w1 (h + 8) = some (ca (List.replicate 48 0)) ∧ w1 (h + 9) = some (ca (List.replicate 48 0)) ∧ w1 (h + 10) = some (ca (List.replicate 48 0)) ∧ w1 (h + 11) = some (ca (List.replicate 48 0)) ∧ w1 (h + 12) = some (ca (List.replicate 90 0)) ∧ w1 (h + 13) = some (ca (List.replicate 90 0)) ∧ w1 (h + 14) = some (ca (List.replicate 544 0)) ∧ w1 (h + 15) = some (ca (List.replicate 136 0)) ∧ w1 (h + 16) = some (ca (List.replicate 68 0)) ∧ w1 (h + 17) = some (ca (List.replicate 48 0)) ∧ w1 (h + 18) = some (ca (List.replicate 48 0)) ∧ w1 (h + 19) = some (ca (List.replicate 48 0)) ∧ w1 (h + 20) = some (ca (List.replicate 48 0)) ∧ w1 (h + 21) = some (ca (List.replicate 68 0)) ∧ w1 (h + 22) = some (ca (List.replicate 200 0)) ∧ frR w w1 h (h + 23)) ⟨mu_eq _ _ _, (mu_ne _ _ (by omega)).trans ((mu_ne _ _ (by omega)).trans g1), (mu_ne _ _ (by omega)).trans ((mu_ne _ _ (by omega)).trans g2), (mu_ne _ _ (by omega)).trans ((mu_ne _ _ (by omega)).trans g3), (mu_ne _ _ (by omega)).trans ((mu_ne _ _ (by omega)).trans g4), (mu_ne _ _ (by omega)).trans ((mu_ne _ _ (by omega)).trans g5), (mu_ne _ _ (by omega)).trans ((mu_ne _ _ (by omega)).trans g6), (mu_ne _ _ (by omega)).trans ((mu_ne _ _ (by omega)).trans g7), (mu_ne _ _ (by omega)).trans ((mu_ne _ _ (by omega)).trans g8), (mu_ne _ _ (by omega)).trans ((mu_ne _ _ (by omega)).trans g9), (mu_ne _ _ (by omega)).trans ((mu_ne _ _ (by omega)).trans g10), (mu_ne _ _ (by omega)).trans ((mu_ne _ _ (by omega)).trans g11), (mu_ne _ _ (by omega)).trans ((mu_ne _ _ (by omega)).trans g12), (mu_ne _ _ (by omega)).trans ((mu_ne _ _ (by omega)).trans g13), (mu_ne _ _ (by omega)).trans ((mu_ne _ _ (by omega)).trans g14), (mu_ne _ _ (by omega)).trans ((mu_ne _ _ (by omega)).trans g15), (mu_ne _ _ (by omega)).trans ((mu_ne _ _ (by omega)).trans g16), (mu_ne _ _ (by omega)).trans ((mu_ne _ _ (by omega)).trans g17), (mu_ne _ _ (by omega)).trans ((mu_ne _ _ (by omega)).trans g18), (mu_ne _ _ (by omega)).trans ((mu_ne _ _ (by omega)).trans g19), (mu_ne _ _ (by omega)).trans ((mu_ne _ _ (by omega)).trans g20), (mu_ne _ _ (by omega)).trans ((mu_ne _ _ (by omega)).trans g21), (mu_ne _ _ (by omega)).trans (mu_eq _ _ _), fun a ha => by rw [mu_ne _ _ (by omega), mu_ne _ _ (by omega), hf a ha]⟩ ?_
  rintro w1 ⟨h0, g1, g2, g3, g4, g5, g6, g7, g8, g9, g10, g11, g12, g13, g14, g15, g16, g17, g18, g19, g20, g21, g22, hf⟩
  refine x_aload_n C dX5_init_194 rfl ?_
  refine x_bipush C dX5_init_195 ⟨by decide, by decide⟩ ?_
  refine x_newI (N := 68) C dX5_init_197 gk_ar_int rfl (Nat.le_of_ble_eq_true rfl) (Nat.le_of_ble_eq_true rfl) (Nat.le_of_ble_eq_true rfl) ?_
  refine x_putF C hN dX5_init_199 kfX5_86 kx_5_40 (by decide +kernel) rfl rfl ((mu_ne _ _ (by omega)).trans h0) (Nat.le_of_ble_eq_true rfl) ?_
  refine x_hide (n := h + 24) (fun w1 => w1 h = some (co 5 [vi 0, vr (h + 1), vi 0, vr (h + 2), vr (h + 3), vr (h + 4), vi 0, vr (h + 5), vr (h + 6), vi 1, vi 8, vi 0, vi 4, vi 0, vr (h + 7), vr (h + 8), vr (h + 9), vr (h + 10), vr (h + 11), vi 0, vi 0, vr (h + 12), vr (h + 13), vr (h + 14), vi 0, vr (h + 15), vi 0, vr (h + 16), vi 0, vr (h + 17), vr (h + 18), vr (h + 19), vr (h + 20), vi 0, vi 0, vr (h + 21), vr (h + 22), vi 0, vi 0, vi 0, vr (h + 23)]) ∧ w1 (h + 1) = some (ca (List.replicate 41 0)) ∧ w1 (h + 2) = some (ca (List.replicate 5 0)) ∧ w1 (h + 3) = some (ca (List.replicate 5 0)) ∧ w1 (h + 4) = some (ca (List.replicate 5 0)) ∧ w1 (h + 5) = some (ca (List.replicate 5 0)) ∧ w1 (h + 6) = some (ca (List.replicate 5 0)) ∧ w1 (h + 7) = some (ca (List.replicate 48 0)) ∧ w1 (h + 8) = some (ca (List.replicate 48 0)) ∧ w1 (h + 9) = some (ca (List.replicate 48 0)) ∧ w1 (h + 10) = some (ca (List.replicate 48 0)) ∧ w1 (h + 11) = some (ca (List.replicate 48 0)) ∧ w1 (h + 12) = some (ca (List.replicate 90 0)) ∧ w1 (h + 13) = some (ca (List.replicate 90 0)) ∧ w1 (h + 14) = some (ca (List.replicate 544 0)) ∧ w1 (h + 15) = some (ca (List.replicate 136 0)) ∧ w1 (h + 16) = some (ca (List.replicate 68 0)) ∧ w1 (h + 17) = some (ca (List.replicate 48 0)) ∧ w1 (h + 18) = some (ca (List.replicate 48 0)) ∧ w1 (h + 19) = some (ca (List.replicate 48 0)) ∧ w1 (h + 20) = some (ca (List.replicate 48 0)) ∧ w1 (h + 21) = some (ca (List.replicate 68 0)) ∧ w1 (h + 22) = some (ca (List.replicate 200 0)) ∧ w1 (h + 23) = some (ca (List.replicate 68 0)) ∧ frR w w1 h (h + 23)) ⟨mu_eq _ _ _, (mu_ne _ _ (by omega)).trans ((mu_ne _ _ (by omega)).trans g1), (mu_ne _ _ (by omega)).trans ((mu_ne _ _ (by omega)).trans g2), (mu_ne _ _ (by omega)).trans ((mu_ne _ _ (by omega)).trans g3), (mu_ne _ _ (by omega)).trans ((mu_ne _ _ (by omega)).trans g4), (mu_ne _ _ (by omega)).trans ((mu_ne _ _ (by omega)).trans g5), (mu_ne _ _ (by omega)).trans ((mu_ne _ _ (by omega)).trans g6), (mu_ne _ _ (by omega)).trans ((mu_ne _ _ (by omega)).trans g7), (mu_ne _ _ (by omega)).trans ((mu_ne _ _ (by omega)).trans g8), (mu_ne _ _ (by omega)).trans ((mu_ne _ _ (by omega)).trans g9), (mu_ne _ _ (by omega)).trans ((mu_ne _ _ (by omega)).trans g10), (mu_ne _ _ (by omega)).trans ((mu_ne _ _ (by omega)).trans g11), (mu_ne _ _ (by omega)).trans ((mu_ne _ _ (by omega)).trans g12), (mu_ne _ _ (by omega)).trans ((mu_ne _ _ (by omega)).trans g13), (mu_ne _ _ (by omega)).trans ((mu_ne _ _ (by omega)).trans g14), (mu_ne _ _ (by omega)).trans ((mu_ne _ _ (by omega)).trans g15), (mu_ne _ _ (by omega)).trans ((mu_ne _ _ (by omega)).trans g16), (mu_ne _ _ (by omega)).trans ((mu_ne _ _ (by omega)).trans g17), (mu_ne _ _ (by omega)).trans ((mu_ne _ _ (by omega)).trans g18), (mu_ne _ _ (by omega)).trans ((mu_ne _ _ (by omega)).trans g19), (mu_ne _ _ (by omega)).trans ((mu_ne _ _ (by omega)).trans g20), (mu_ne _ _ (by omega)).trans ((mu_ne _ _ (by omega)).trans g21), (mu_ne _ _ (by omega)).trans ((mu_ne _ _ (by omega)).trans g22), (mu_ne _ _ (by omega)).trans (mu_eq _ _ _), fun a ha => by rw [mu_ne _ _ (by omega), mu_ne _ _ (by omega), hf a ha]⟩ ?_
  rintro w1 ⟨h0, g1, g2, g3, g4, g5, g6, g7, g8, g9, g10, g11, g12, g13, g14, g15, g16, g17, g18, g19, g20, g21, g22, g23, hf⟩
  have hr : rM w1 h 0 0 0 1 8 0 4 0 0 0 0 0 0 0 0 0 0 0 (List.replicate 41 0) (List.replicate 5 0) (List.replicate 5 0) (List.replicate 5 0) (List.replicate 5 0) (List.replicate 5 0) (List.replicate 48 0) (List.replicate 48 0) (List.replicate 48 0) (List.replicate 48 0) (List.replicate 48 0) (List.replicate 90 0) (List.replicate 90 0) (List.replicate 544 0) (List.replicate 136 0) (List.replicate 68 0) (List.replicate 48 0) (List.replicate 48 0) (List.replicate 48 0) (List.replicate 48 0) (List.replicate 68 0) (List.replicate 200 0) (List.replicate 68 0) := ⟨h0, g1, g2, g3, g4, g5, g6, g7, g8, g9, g10, g11, g12, g13, g14, g15, g16, g17, g18, g19, g20, g21, g22, g23, List.length_replicate, List.length_replicate, List.length_replicate, List.length_replicate, List.length_replicate, List.length_replicate, List.length_replicate, List.length_replicate, List.length_replicate, List.length_replicate, List.length_replicate, List.length_replicate, List.length_replicate, List.length_replicate, List.length_replicate, List.length_replicate, List.length_replicate, List.length_replicate, List.length_replicate, List.length_replicate, List.length_replicate, List.length_replicate, List.length_replicate⟩
  refine x_iconst C dX5_init_202 ⟨by decide, by decide⟩ ?_
  refine s_ist2_1 C dX5_init_203 rfl ?_
  refine lp_X5_init C (fun k M1 w2 hr hf hM => ?_) 30 0 _ w1 (by omega) hr hf (fun j hj => absurd hj (by omega))
  refine x_aload_n C dX5_init_303 rfl ?_
  refine x_bipush C dX5_init_304 ⟨by decide, by decide⟩ ?_
  refine x_put C dX5_init_306 kfX5_89 kw_5_0 rfl rfl hr.o (Nat.le_of_ble_eq_true rfl) ?_
  refine ab_M_mn hr hf (fun w hr hf => ?_)
  have l1 := hr.l1
  obtain ⟨j1, rfl⟩ := pre_of (A := M1) (X := sg30) (by rw [l1, sg30_len]; omega) (fun k hk => by rw [hM k (by rw [sg30_len] at hk; exact hk), sg30_at k (by rw [sg30_len] at hk; exact hk)])
  have hr : rM w h (sg30.length : Nat) ([] : List (Int × Int × Int)).length ([] : List (Int × Int)).length 1 8 0 4 0 0 0 0 0 0 0 0 0 0 0 (sg30 ++ j1) (([] : List (Int × Int × Int)).map (fun f => f.1) ++ List.replicate 5 0) (([] : List (Int × Int × Int)).map (fun f => f.2.1) ++ List.replicate 5 0) (([] : List (Int × Int × Int)).map (fun f => f.2.2) ++ List.replicate 5 0) (([] : List (Int × Int)).map (fun f => f.1) ++ List.replicate 5 0) (([] : List (Int × Int)).map (fun f => f.2) ++ List.replicate 5 0) (List.replicate 48 0) (List.replicate 48 0) (List.replicate 48 0) (List.replicate 48 0) (List.replicate 48 0) (List.replicate 90 0) (List.replicate 90 0) (List.replicate 544 0) (List.replicate 136 0) (List.replicate 68 0) (List.replicate 48 0) (List.replicate 48 0) (List.replicate 48 0) (List.replicate 48 0) (List.replicate 68 0) (List.replicate 200 0) (List.replicate 68 0) := hr
  refine x_aload_n C dX5_init_309 rfl ?_
  refine x_bipush C dX5_init_310 ⟨by decide, by decide⟩ ?_
  refine x_bipush C dX5_init_312 ⟨by decide, by decide⟩ ?_
  refine x_iconst C dX5_init_314 ⟨by decide, by decide⟩ ?_
  refine y_i3 C dX5_init_315 kyX5_comesFold knX5_comesFold kmX5_92 hr.o (c_X5_comesFold l hr 6 9 1 (by decide)) (by decide) (Nat.le_refl _) (Nat.le_refl _) (Nat.le_of_ble_eq_true rfl) (fun z315 w315 q315 => ?_)
  obtain ⟨l1, k2, k3, k4, hi9, hr, hf9⟩ := q315
  have hf := hf.tr hf9
  obtain ⟨rfl, -⟩ := insK_fun hi9
  refine x_pop C dX5_init_318 rfl ?_
  refine x_aload_n C dX5_init_319 rfl ?_
  refine x_bipush C dX5_init_320 ⟨by decide, by decide⟩ ?_
  refine x_bipush C dX5_init_322 ⟨by decide, by decide⟩ ?_
  refine x_iconst C dX5_init_324 ⟨by decide, by decide⟩ ?_
  refine y_i3 C dX5_init_325 kyX5_comesFold knX5_comesFold kmX5_92 hr.o (c_X5_comesFold l hr 18 21 1 (by decide)) (by decide) (Nat.le_refl _) (Nat.le_refl _) (Nat.le_of_ble_eq_true rfl) (fun z325 w325 q325 => ?_)
  obtain ⟨l1, k2, k3, k4, hi9, hr, hf9⟩ := q325
  have hf := hf.tr hf9
  obtain ⟨rfl, -⟩ := insK_fun hi9
  refine x_pop C dX5_init_328 rfl ?_
  refine x_aload_n C dX5_init_329 rfl ?_
  refine x_iconst C dX5_init_330 ⟨by decide, by decide⟩ ?_
  refine x_iconst C dX5_init_331 ⟨by decide, by decide⟩ ?_
  refine y_i2 C dX5_init_332 kyX5_comesHint knX5_comesHint kmX5_96 hr.o (c_X5_comesHint l hr 3 2 (by decide)) (by decide) (Nat.le_refl _) (Nat.le_refl _) (Nat.le_of_ble_eq_true rfl) (fun z332 w332 q332 => ?_)
  obtain ⟨l1, k5, k6, hi9, hr, hf9⟩ := q332
  have hf := hf.tr hf9
  obtain ⟨rfl, -⟩ := insK_fun hi9
  refine x_pop C dX5_init_335 rfl ?_
  refine x_aload_n C dX5_init_336 rfl ?_
  refine x_bipush C dX5_init_337 ⟨by decide, by decide⟩ ?_
  refine x_iconst C dX5_init_339 ⟨by decide, by decide⟩ ?_
  refine y_i2 C dX5_init_340 kyX5_comesHint knX5_comesHint kmX5_96 hr.o (c_X5_comesHint l hr 11 4 (by decide)) (by decide) (Nat.le_refl _) (Nat.le_refl _) (Nat.le_of_ble_eq_true rfl) (fun z340 w340 q340 => ?_)
  obtain ⟨l1, k5, k6, hi9, hr, hf9⟩ := q340
  have hf := hf.tr hf9
  obtain ⟨rfl, -⟩ := insK_fun hi9
  refine x_pop C dX5_init_343 rfl ?_
  refine x_aload_n C dX5_init_344 rfl ?_
  refine x_iconst C dX5_init_345 ⟨by decide, by decide⟩ ?_
  refine x_put C dX5_init_346 kfX5_28 kw_5_9 rfl rfl hr.o (Nat.le_of_ble_eq_true rfl) ?_
  refine ab_M_mo hr hf (fun w hr hf => ?_)
  refine x_aload_n C dX5_init_349 rfl ?_
  refine x_bipush C dX5_init_350 ⟨by decide, by decide⟩ ?_
  refine x_put C dX5_init_352 kfX5_32 kw_5_10 rfl rfl hr.o (Nat.le_of_ble_eq_true rfl) ?_
  refine ab_M_wi hr hf (fun w hr hf => ?_)
  refine x_aload_n C dX5_init_355 rfl ?_
  refine x_iconst C dX5_init_356 ⟨by decide, by decide⟩ ?_
  refine x_put C dX5_init_357 kfX5_100 kw_5_11 rfl rfl hr.o (Nat.le_of_ble_eq_true rfl) ?_
  refine ab_M_nd hr hf (fun w hr hf => ?_)
  refine x_aload_n C dX5_init_360 rfl ?_
  refine x_iconst C dX5_init_361 ⟨by decide, by decide⟩ ?_
  refine x_put C dX5_init_362 kfX5_35 kw_5_12 rfl rfl hr.o (Nat.le_of_ble_eq_true rfl) ?_
  refine ab_M_tb hr hf (fun w hr hf => ?_)
  refine x_vret C hQ dX5_init_365 (Nat.le_refl _) (Nat.le_refl _) ?_
  exact ⟨rfl, rfl, ⟨_, _, _, _, _, _, _, _, _, _, _, _, _, _, _, ⟨_, _, _, _, _, _, _, _, _, _, _, _, _, _, _, _, hr⟩, (fun i G9 hG => by have h9 : ([] : List mF)[i]? = some G9 := hG; simp at h9), (fun i G9 hG => by have h9 : ([] : List mF)[i]? = some G9 := hG; simp at h9), (by show ([] : List mF).length ≤ 8; simp), (by show ([] : List mF).length ≤ 2; simp), ⟨_, rfl⟩, rfl⟩, hf⟩
