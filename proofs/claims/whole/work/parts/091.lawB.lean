/-! ===== the law: what each call compares ===== -/
set_option maxHeartbeats 1000000 in
set_option maxRecDepth 100000 in
theorem cs_0 {t : TX} {l : Launch} {b L n g : Nat} {xs : Nat → Int32} (C : Cb t l cL_law RL 4 (some .boolean) 8 140 3868) (hT : tL b L xs t) {w : mW} {D : mD} {i : Int} (hX : isX w g D) (hM : isM w (g + 116) D) (hi : 0 ≤ i ∧ i + 4 ≤ L) (hL : L ≤ 2048) (kx : ∀ (w' : mW) (D' : mD), isX w' g D' → isM w' (g + 116) D' → J t 140 3868 938 [some (vr b), some (vr g), some (vr (g + 116)), some (vi i)] [] n w') : J t 140 3868 168 [some (vr b), some (vr g), some (vr (g + 116)), some (vi i)] [] n w := by -- write
  have hD := hX.1
  obtain ⟨fs4, o4⟩ := hX.o4
  refine x_aload_n C dL_law_168 rfl ?_
  refine x_aload_n C dL_law_169 rfl ?_
  refine x_iload_n C dL_law_170 rfl ?_
  refine x_iconst C dL_law_171 ⟨by decide, by decide⟩ ?_
  refine x_iadd C dL_law_172 (by unfold iR; omega) ?_
  refine x_sld C hT dL_law_173 (by omega) ?_
  refine y_i1 C dL_law_174 kyX4_write knX4_write kmL_13 o4 (c_X4_write l hX _) (by decide) (Nat.le_refl _) (Nat.le_refl _) (Nat.le_of_ble_eq_true rfl) (fun z4 w4 q4 => ?_)
  obtain ⟨e4, hX, f4⟩ := q4
  have hM := hM.frM f4 (by omega)
  obtain ⟨fs5, o5⟩ := hM.o5
  refine x_aload_n C dL_law_177 rfl ?_
  refine x_aload_n C dL_law_178 rfl ?_
  refine x_iload_n C dL_law_179 rfl ?_
  refine x_iconst C dL_law_180 ⟨by decide, by decide⟩ ?_
  refine x_iadd C dL_law_181 (by unfold iR; omega) ?_
  refine x_sld C hT dL_law_182 (by omega) ?_
  refine y_i1 C dL_law_183 kyX5_write knX5_write kmL_17 o5 (c_X5_write l hM hD _) (by decide) (Nat.le_refl _) (Nat.le_refl _) (Nat.le_of_ble_eq_true rfl) (fun z5 w5 q5 => ?_)
  obtain ⟨e5, hM, f5⟩ := q5
  have hX := hX.frX f5 (by omega)
  refine x_icmp_eq (tgt := 938) C dL_law_186 (by decide) (fun _ => ?_) (fun c9 => absurd (e4.trans e5.symm) c9)
  exact kx _ _ hX hM

set_option maxHeartbeats 1000000 in
set_option maxRecDepth 100000 in
theorem cs_1 {t : TX} {l : Launch} {b L n g : Nat} {xs : Nat → Int32} (C : Cb t l cL_law RL 4 (some .boolean) 8 140 3868) (hT : tL b L xs t) {w : mW} {D : mD} {i : Int} (hX : isX w g D) (hM : isM w (g + 116) D) (hi : 0 ≤ i ∧ i + 4 ≤ L) (hL : L ≤ 2048) (kx : ∀ (w' : mW) (D' : mD), isX w' g D' → isM w' (g + 116) D' → J t 140 3868 938 [some (vr b), some (vr g), some (vr (g + 116)), some (vi i)] [] n w') : J t 140 3868 191 [some (vr b), some (vr g), some (vr (g + 116)), some (vi i)] [] n w := by -- wipe
  have hD := hX.1
  obtain ⟨fs4, o4⟩ := hX.o4
  refine x_aload_n C dL_law_191 rfl ?_
  refine y_i0 C dL_law_192 kyX4_wipe knX4_wipe kmL_18 o4 (c_X4_wipe l hX) (by decide) (Nat.le_refl _) (Nat.le_refl _) (Nat.le_of_ble_eq_true rfl) (fun z4 w4 q4 => ?_)
  obtain ⟨e4, hX, f4⟩ := q4
  have hM := hM.frM f4 (by omega)
  obtain ⟨fs5, o5⟩ := hM.o5
  refine x_aload_n C dL_law_195 rfl ?_
  refine y_i0 C dL_law_196 kyX5_wipe knX5_wipe kmL_22 o5 (c_X5_wipe l hM hD) (by decide) (Nat.le_refl _) (Nat.le_refl _) (Nat.le_of_ble_eq_true rfl) (fun z5 w5 q5 => ?_)
  obtain ⟨e5, hM, f5⟩ := q5
  have hX := hX.frX f5 (by omega)
  refine x_icmp_eq (tgt := 938) C dL_law_199 (by decide) (fun _ => ?_) (fun c9 => absurd (e4.trans e5.symm) c9)
  exact kx _ _ hX hM

set_option maxHeartbeats 1000000 in
set_option maxRecDepth 100000 in
theorem cs_2 {t : TX} {l : Launch} {b L n g : Nat} {xs : Nat → Int32} (C : Cb t l cL_law RL 4 (some .boolean) 8 140 3868) (hT : tL b L xs t) {w : mW} {D : mD} {i : Int} (hX : isX w g D) (hM : isM w (g + 116) D) (hi : 0 ≤ i ∧ i + 4 ≤ L) (hL : L ≤ 2048) (kx : ∀ (w' : mW) (D' : mD), isX w' g D' → isM w' (g + 116) D' → J t 140 3868 938 [some (vr b), some (vr g), some (vr (g + 116)), some (vi i)] [] n w') : J t 140 3868 204 [some (vr b), some (vr g), some (vr (g + 116)), some (vi i)] [] n w := by -- fault
  have hD := hX.1
  obtain ⟨fs4, o4⟩ := hX.o4
  refine x_aload_n C dL_law_204 rfl ?_
  refine y_i0 C dL_law_205 kyX4_fault knX4_fault kmL_23 o4 (c_X4_fault l hX) (by decide) (Nat.le_refl _) (Nat.le_refl _) (Nat.le_of_ble_eq_true rfl) (fun z4 w4 q4 => ?_)
  obtain ⟨e4, hX, f4⟩ := q4
  have hM := hM.frM f4 (by omega)
  obtain ⟨fs5, o5⟩ := hM.o5
  refine x_aload_n C dL_law_208 rfl ?_
  refine y_i0 C dL_law_209 kyX5_fault knX5_fault kmL_26 o5 (c_X5_fault l hM hD) (by decide) (Nat.le_refl _) (Nat.le_refl _) (Nat.le_of_ble_eq_true rfl) (fun z5 w5 q5 => ?_)
  obtain ⟨e5, hM, f5⟩ := q5
  have hX := hX.frX f5 (by omega)
  refine x_icmp_eq (tgt := 938) C dL_law_212 (by decide) (fun _ => ?_) (fun c9 => absurd (e4.trans e5.symm) c9)
  exact kx _ _ hX hM

set_option maxHeartbeats 1000000 in
set_option maxRecDepth 100000 in
theorem cs_3 {t : TX} {l : Launch} {b L n g : Nat} {xs : Nat → Int32} (C : Cb t l cL_law RL 4 (some .boolean) 8 140 3868) (hT : tL b L xs t) {w : mW} {D : mD} {i : Int} (hX : isX w g D) (hM : isM w (g + 116) D) (hi : 0 ≤ i ∧ i + 4 ≤ L) (hL : L ≤ 2048) (kx : ∀ (w' : mW) (D' : mD), isX w' g D' → isM w' (g + 116) D' → J t 140 3868 938 [some (vr b), some (vr g), some (vr (g + 116)), some (vi i)] [] n w') : J t 140 3868 217 [some (vr b), some (vr g), some (vr (g + 116)), some (vi i)] [] n w := by -- lay
  have hD := hX.1
  obtain ⟨fs4, o4⟩ := hX.o4
  refine x_aload_n C dL_law_217 rfl ?_
  refine y_i0 C dL_law_218 kyX4_lay knX4_lay kmL_27 o4 (c_X4_lay l hX) (by decide) (Nat.le_refl _) (Nat.le_refl _) (Nat.le_of_ble_eq_true rfl) (fun z4 w4 q4 => ?_)
  obtain ⟨e4, hX, f4⟩ := q4
  have hM := hM.frM f4 (by omega)
  obtain ⟨fs5, o5⟩ := hM.o5
  refine x_aload_n C dL_law_221 rfl ?_
  refine y_i0 C dL_law_222 kyX5_lay knX5_lay kmL_30 o5 (c_X5_lay l hM hD) (by decide) (Nat.le_refl _) (Nat.le_refl _) (Nat.le_of_ble_eq_true rfl) (fun z5 w5 q5 => ?_)
  obtain ⟨e5, hM, f5⟩ := q5
  have hX := hX.frX f5 (by omega)
  refine x_icmp_eq (tgt := 938) C dL_law_225 (by decide) (fun _ => ?_) (fun c9 => absurd (e4.trans e5.symm) c9)
  exact kx _ _ hX hM

set_option maxHeartbeats 1000000 in
set_option maxRecDepth 100000 in
theorem cs_4 {t : TX} {l : Launch} {b L n g : Nat} {xs : Nat → Int32} (C : Cb t l cL_law RL 4 (some .boolean) 8 140 3868) (hT : tL b L xs t) {w : mW} {D : mD} {i : Int} (hX : isX w g D) (hM : isM w (g + 116) D) (hi : 0 ≤ i ∧ i + 4 ≤ L) (hL : L ≤ 2048) (kx : ∀ (w' : mW) (D' : mD), isX w' g D' → isM w' (g + 116) D' → J t 140 3868 938 [some (vr b), some (vr g), some (vr (g + 116)), some (vi i)] [] n w') : J t 140 3868 230 [some (vr b), some (vr g), some (vr (g + 116)), some (vi i)] [] n w := by -- sign
  have hD := hX.1
  obtain ⟨fs4, o4⟩ := hX.o4
  refine x_aload_n C dL_law_230 rfl ?_
  refine x_aload_n C dL_law_231 rfl ?_
  refine x_iload_n C dL_law_232 rfl ?_
  refine x_iconst C dL_law_233 ⟨by decide, by decide⟩ ?_
  refine x_iadd C dL_law_234 (by unfold iR; omega) ?_
  refine x_sld C hT dL_law_235 (by omega) ?_
  refine y_p1 C dL_law_236 kyX4_sign knX4_sign kmL_31 o4 (c_X4_sign l hX _) (by decide) (Nat.le_refl _) (Nat.le_refl _) (Nat.le_of_ble_eq_true rfl) (fun z4 e4 => ?_)
  obtain ⟨fs5, o5⟩ := hM.o5
  refine x_aload_n C dL_law_239 rfl ?_
  refine x_aload_n C dL_law_240 rfl ?_
  refine x_iload_n C dL_law_241 rfl ?_
  refine x_iconst C dL_law_242 ⟨by decide, by decide⟩ ?_
  refine x_iadd C dL_law_243 (by unfold iR; omega) ?_
  refine x_sld C hT dL_law_244 (by omega) ?_
  refine y_p1 C dL_law_245 kyX5_sign knX5_sign kmL_34 o5 (c_X5_sign l hM hD _) (by decide) (Nat.le_refl _) (Nat.le_refl _) (Nat.le_of_ble_eq_true rfl) (fun z5 e5 => ?_)
  refine x_icmp_eq (tgt := 938) C dL_law_248 (by decide) (fun _ => ?_) (fun c9 => absurd (e4.trans e5.symm) c9)
  exact kx _ _ hX hM

set_option maxHeartbeats 1000000 in
set_option maxRecDepth 100000 in
theorem cs_5 {t : TX} {l : Launch} {b L n g : Nat} {xs : Nat → Int32} (C : Cb t l cL_law RL 4 (some .boolean) 8 140 3868) (hT : tL b L xs t) {w : mW} {D : mD} {i : Int} (hX : isX w g D) (hM : isM w (g + 116) D) (hi : 0 ≤ i ∧ i + 4 ≤ L) (hL : L ≤ 2048) (kx : ∀ (w' : mW) (D' : mD), isX w' g D' → isM w' (g + 116) D' → J t 140 3868 938 [some (vr b), some (vr g), some (vr (g + 116)), some (vi i)] [] n w') : J t 140 3868 253 [some (vr b), some (vr g), some (vr (g + 116)), some (vi i)] [] n w := by -- fold
  have hD := hX.1
  obtain ⟨fs4, o4⟩ := hX.o4
  refine x_aload_n C dL_law_253 rfl ?_
  refine x_aload_n C dL_law_254 rfl ?_
  refine x_iload_n C dL_law_255 rfl ?_
  refine x_iconst C dL_law_256 ⟨by decide, by decide⟩ ?_
  refine x_iadd C dL_law_257 (by unfold iR; omega) ?_
  refine x_sld C hT dL_law_258 (by omega) ?_
  refine x_aload_n C dL_law_259 rfl ?_
  refine x_iload_n C dL_law_260 rfl ?_
  refine x_iconst C dL_law_261 ⟨by decide, by decide⟩ ?_
  refine x_iadd C dL_law_262 (by unfold iR; omega) ?_
  refine x_sld C hT dL_law_263 (by omega) ?_
  refine y_p2 C dL_law_264 kyX4_fold knX4_fold kmL_35 o4 (c_X4_fold l hX _ _) (by decide) (Nat.le_refl _) (Nat.le_refl _) (Nat.le_of_ble_eq_true rfl) (fun z4 e4 => ?_)
  obtain ⟨fs5, o5⟩ := hM.o5
  refine x_aload_n C dL_law_267 rfl ?_
  refine x_aload_n C dL_law_268 rfl ?_
  refine x_iload_n C dL_law_269 rfl ?_
  refine x_iconst C dL_law_270 ⟨by decide, by decide⟩ ?_
  refine x_iadd C dL_law_271 (by unfold iR; omega) ?_
  refine x_sld C hT dL_law_272 (by omega) ?_
  refine x_aload_n C dL_law_273 rfl ?_
  refine x_iload_n C dL_law_274 rfl ?_
  refine x_iconst C dL_law_275 ⟨by decide, by decide⟩ ?_
  refine x_iadd C dL_law_276 (by unfold iR; omega) ?_
  refine x_sld C hT dL_law_277 (by omega) ?_
  refine y_p2 C dL_law_278 kyX5_fold knX5_fold kmL_39 o5 (c_X5_fold l hM hD _ _) (by decide) (Nat.le_refl _) (Nat.le_refl _) (Nat.le_of_ble_eq_true rfl) (fun z5 e5 => ?_)
  refine x_icmp_eq (tgt := 938) C dL_law_281 (by decide) (fun _ => ?_) (fun c9 => absurd (e4.trans e5.symm) c9)
  exact kx _ _ hX hM

set_option maxHeartbeats 1000000 in
set_option maxRecDepth 100000 in
theorem cs_6 {t : TX} {l : Launch} {b L n g : Nat} {xs : Nat → Int32} (C : Cb t l cL_law RL 4 (some .boolean) 8 140 3868) (hT : tL b L xs t) {w : mW} {D : mD} {i : Int} (hX : isX w g D) (hM : isM w (g + 116) D) (hi : 0 ≤ i ∧ i + 4 ≤ L) (hL : L ≤ 2048) (kx : ∀ (w' : mW) (D' : mD), isX w' g D' → isM w' (g + 116) D' → J t 140 3868 938 [some (vr b), some (vr g), some (vr (g + 116)), some (vi i)] [] n w') : J t 140 3868 286 [some (vr b), some (vr g), some (vr (g + 116)), some (vi i)] [] n w := by -- hint
  have hD := hX.1
  obtain ⟨fs4, o4⟩ := hX.o4
  refine x_aload_n C dL_law_286 rfl ?_
  refine x_aload_n C dL_law_287 rfl ?_
  refine x_iload_n C dL_law_288 rfl ?_
  refine x_iconst C dL_law_289 ⟨by decide, by decide⟩ ?_
  refine x_iadd C dL_law_290 (by unfold iR; omega) ?_
  refine x_sld C hT dL_law_291 (by omega) ?_
  refine x_aload_n C dL_law_292 rfl ?_
  refine x_iload_n C dL_law_293 rfl ?_
  refine x_iconst C dL_law_294 ⟨by decide, by decide⟩ ?_
  refine x_iadd C dL_law_295 (by unfold iR; omega) ?_
  refine x_sld C hT dL_law_296 (by omega) ?_
  refine y_p2 C dL_law_297 kyX4_hint knX4_hint kmL_40 o4 (c_X4_hint l hX _ _) (by decide) (Nat.le_refl _) (Nat.le_refl _) (Nat.le_of_ble_eq_true rfl) (fun z4 e4 => ?_)
  obtain ⟨fs5, o5⟩ := hM.o5
  refine x_aload_n C dL_law_300 rfl ?_
  refine x_aload_n C dL_law_301 rfl ?_
  refine x_iload_n C dL_law_302 rfl ?_
  refine x_iconst C dL_law_303 ⟨by decide, by decide⟩ ?_
  refine x_iadd C dL_law_304 (by unfold iR; omega) ?_
  refine x_sld C hT dL_law_305 (by omega) ?_
  refine x_aload_n C dL_law_306 rfl ?_
  refine x_iload_n C dL_law_307 rfl ?_
  refine x_iconst C dL_law_308 ⟨by decide, by decide⟩ ?_
  refine x_iadd C dL_law_309 (by unfold iR; omega) ?_
  refine x_sld C hT dL_law_310 (by omega) ?_
  refine y_p2 C dL_law_311 kyX5_hint knX5_hint kmL_43 o5 (c_X5_hint l hM hD _ _) (by decide) (Nat.le_refl _) (Nat.le_refl _) (Nat.le_of_ble_eq_true rfl) (fun z5 e5 => ?_)
  refine x_icmp_eq (tgt := 938) C dL_law_314 (by decide) (fun _ => ?_) (fun c9 => absurd (e4.trans e5.symm) c9)
  exact kx _ _ hX hM

set_option maxHeartbeats 1000000 in
set_option maxRecDepth 100000 in
theorem cs_7 {t : TX} {l : Launch} {b L n g : Nat} {xs : Nat → Int32} (C : Cb t l cL_law RL 4 (some .boolean) 8 140 3868) (hT : tL b L xs t) {w : mW} {D : mD} {i : Int} (hX : isX w g D) (hM : isM w (g + 116) D) (hi : 0 ≤ i ∧ i + 4 ≤ L) (hL : L ≤ 2048) (kx : ∀ (w' : mW) (D' : mD), isX w' g D' → isM w' (g + 116) D' → J t 140 3868 938 [some (vr b), some (vr g), some (vr (g + 116)), some (vi i)] [] n w') : J t 140 3868 319 [some (vr b), some (vr g), some (vr (g + 116)), some (vi i)] [] n w := by -- insert
  have hD := hX.1
  obtain ⟨fs4, o4⟩ := hX.o4
  refine x_aload_n C dL_law_319 rfl ?_
  refine x_aload_n C dL_law_320 rfl ?_
  refine x_iload_n C dL_law_321 rfl ?_
  refine x_iconst C dL_law_322 ⟨by decide, by decide⟩ ?_
  refine x_iadd C dL_law_323 (by unfold iR; omega) ?_
  refine x_sld C hT dL_law_324 (by omega) ?_
  refine x_aload_n C dL_law_325 rfl ?_
  refine x_iload_n C dL_law_326 rfl ?_
  refine x_iconst C dL_law_327 ⟨by decide, by decide⟩ ?_
  refine x_iadd C dL_law_328 (by unfold iR; omega) ?_
  refine x_sld C hT dL_law_329 (by omega) ?_
  refine y_i2 C dL_law_330 kyX4_insert knX4_insert kmL_44 o4 (c_X4_insert l hX _ _) (by decide) (Nat.le_refl _) (Nat.le_refl _) (Nat.le_of_ble_eq_true rfl) (fun z4 w4 q4 => ?_)
  obtain ⟨e4, hX, f4⟩ := q4
  have hM := hM.frM f4 (by omega)
  obtain ⟨fs5, o5⟩ := hM.o5
  refine x_aload_n C dL_law_333 rfl ?_
  refine x_aload_n C dL_law_334 rfl ?_
  refine x_iload_n C dL_law_335 rfl ?_
  refine x_iconst C dL_law_336 ⟨by decide, by decide⟩ ?_
  refine x_iadd C dL_law_337 (by unfold iR; omega) ?_
  refine x_sld C hT dL_law_338 (by omega) ?_
  refine x_aload_n C dL_law_339 rfl ?_
  refine x_iload_n C dL_law_340 rfl ?_
  refine x_iconst C dL_law_341 ⟨by decide, by decide⟩ ?_
  refine x_iadd C dL_law_342 (by unfold iR; omega) ?_
  refine x_sld C hT dL_law_343 (by omega) ?_
  refine y_i2 C dL_law_344 kyX5_insert knX5_insert kmL_47 o5 (c_X5_insert l hM hD _ _) (by decide) (Nat.le_refl _) (Nat.le_refl _) (Nat.le_of_ble_eq_true rfl) (fun z5 w5 q5 => ?_)
  obtain ⟨e5, hM, f5⟩ := q5
  have hX := hX.frX f5 (by omega)
  refine x_icmp_eq (tgt := 938) C dL_law_347 (by decide) (fun _ => ?_) (fun c9 => absurd (e4.trans e5.symm) c9)
  exact kx _ _ hX hM

set_option maxHeartbeats 1000000 in
set_option maxRecDepth 100000 in
theorem cs_8 {t : TX} {l : Launch} {b L n g : Nat} {xs : Nat → Int32} (C : Cb t l cL_law RL 4 (some .boolean) 8 140 3868) (hT : tL b L xs t) {w : mW} {D : mD} {i : Int} (hX : isX w g D) (hM : isM w (g + 116) D) (hi : 0 ≤ i ∧ i + 4 ≤ L) (hL : L ≤ 2048) (kx : ∀ (w' : mW) (D' : mD), isX w' g D' → isM w' (g + 116) D' → J t 140 3868 938 [some (vr b), some (vr g), some (vr (g + 116)), some (vi i)] [] n w') : J t 140 3868 352 [some (vr b), some (vr g), some (vr (g + 116)), some (vi i)] [] n w := by -- erase
  have hD := hX.1
  obtain ⟨fs4, o4⟩ := hX.o4
  refine x_aload_n C dL_law_352 rfl ?_
  refine x_aload_n C dL_law_353 rfl ?_
  refine x_iload_n C dL_law_354 rfl ?_
  refine x_iconst C dL_law_355 ⟨by decide, by decide⟩ ?_
  refine x_iadd C dL_law_356 (by unfold iR; omega) ?_
  refine x_sld C hT dL_law_357 (by omega) ?_
  refine y_i1 C dL_law_358 kyX4_erase knX4_erase kmL_48 o4 (c_X4_erase l hX _) (by decide) (Nat.le_refl _) (Nat.le_refl _) (Nat.le_of_ble_eq_true rfl) (fun z4 w4 q4 => ?_)
  obtain ⟨e4, hX, f4⟩ := q4
  have hM := hM.frM f4 (by omega)
  obtain ⟨fs5, o5⟩ := hM.o5
  refine x_aload_n C dL_law_361 rfl ?_
  refine x_aload_n C dL_law_362 rfl ?_
  refine x_iload_n C dL_law_363 rfl ?_
  refine x_iconst C dL_law_364 ⟨by decide, by decide⟩ ?_
  refine x_iadd C dL_law_365 (by unfold iR; omega) ?_
  refine x_sld C hT dL_law_366 (by omega) ?_
  refine y_i1 C dL_law_367 kyX5_erase knX5_erase kmL_51 o5 (c_X5_erase l hM hD _) (by decide) (Nat.le_refl _) (Nat.le_refl _) (Nat.le_of_ble_eq_true rfl) (fun z5 w5 q5 => ?_)
  obtain ⟨e5, hM, f5⟩ := q5
  have hX := hX.frX f5 (by omega)
  refine x_icmp_eq (tgt := 938) C dL_law_370 (by decide) (fun _ => ?_) (fun c9 => absurd (e4.trans e5.symm) c9)
  exact kx _ _ hX hM

set_option maxHeartbeats 1000000 in
set_option maxRecDepth 100000 in
theorem cs_9 {t : TX} {l : Launch} {b L n g : Nat} {xs : Nat → Int32} (C : Cb t l cL_law RL 4 (some .boolean) 8 140 3868) (hT : tL b L xs t) {w : mW} {D : mD} {i : Int} (hX : isX w g D) (hM : isM w (g + 116) D) (hi : 0 ≤ i ∧ i + 4 ≤ L) (hL : L ≤ 2048) (kx : ∀ (w' : mW) (D' : mD), isX w' g D' → isM w' (g + 116) D' → J t 140 3868 938 [some (vr b), some (vr g), some (vr (g + 116)), some (vi i)] [] n w') : J t 140 3868 375 [some (vr b), some (vr g), some (vr (g + 116)), some (vi i)] [] n w := by -- toggle
  have hD := hX.1
  obtain ⟨fs4, o4⟩ := hX.o4
  refine x_aload_n C dL_law_375 rfl ?_
  refine x_aload_n C dL_law_376 rfl ?_
  refine x_iload_n C dL_law_377 rfl ?_
  refine x_iconst C dL_law_378 ⟨by decide, by decide⟩ ?_
  refine x_iadd C dL_law_379 (by unfold iR; omega) ?_
  refine x_sld C hT dL_law_380 (by omega) ?_
  refine y_i1 C dL_law_381 kyX4_toggle knX4_toggle kmL_52 o4 (c_X4_toggle l hX _) (by decide) (Nat.le_refl _) (Nat.le_refl _) (Nat.le_of_ble_eq_true rfl) (fun z4 w4 q4 => ?_)
  obtain ⟨e4, hX, f4⟩ := q4
  have hM := hM.frM f4 (by omega)
  obtain ⟨fs5, o5⟩ := hM.o5
  refine x_aload_n C dL_law_384 rfl ?_
  refine x_aload_n C dL_law_385 rfl ?_
  refine x_iload_n C dL_law_386 rfl ?_
  refine x_iconst C dL_law_387 ⟨by decide, by decide⟩ ?_
  refine x_iadd C dL_law_388 (by unfold iR; omega) ?_
  refine x_sld C hT dL_law_389 (by omega) ?_
  refine y_i1 C dL_law_390 kyX5_toggle knX5_toggle kmL_55 o5 (c_X5_toggle l hM hD _) (by decide) (Nat.le_refl _) (Nat.le_refl _) (Nat.le_of_ble_eq_true rfl) (fun z5 w5 q5 => ?_)
  obtain ⟨e5, hM, f5⟩ := q5
  have hX := hX.frX f5 (by omega)
  refine x_icmp_eq (tgt := 938) C dL_law_393 (by decide) (fun _ => ?_) (fun c9 => absurd (e4.trans e5.symm) c9)
  exact kx _ _ hX hM

set_option maxHeartbeats 1000000 in
set_option maxRecDepth 100000 in
theorem cs_10 {t : TX} {l : Launch} {b L n g : Nat} {xs : Nat → Int32} (C : Cb t l cL_law RL 4 (some .boolean) 8 140 3868) (hT : tL b L xs t) {w : mW} {D : mD} {i : Int} (hX : isX w g D) (hM : isM w (g + 116) D) (hi : 0 ≤ i ∧ i + 4 ≤ L) (hL : L ≤ 2048) (kx : ∀ (w' : mW) (D' : mD), isX w' g D' → isM w' (g + 116) D' → J t 140 3868 938 [some (vr b), some (vr g), some (vr (g + 116)), some (vi i)] [] n w') : J t 140 3868 398 [some (vr b), some (vr g), some (vr (g + 116)), some (vi i)] [] n w := by -- make
  have hD := hX.1
  obtain ⟨fs4, o4⟩ := hX.o4
  refine x_aload_n C dL_law_398 rfl ?_
  refine x_aload_n C dL_law_399 rfl ?_
  refine x_iload_n C dL_law_400 rfl ?_
  refine x_iconst C dL_law_401 ⟨by decide, by decide⟩ ?_
  refine x_iadd C dL_law_402 (by unfold iR; omega) ?_
  refine x_sld C hT dL_law_403 (by omega) ?_
  refine x_aload_n C dL_law_404 rfl ?_
  refine x_iload_n C dL_law_405 rfl ?_
  refine x_iconst C dL_law_406 ⟨by decide, by decide⟩ ?_
  refine x_iadd C dL_law_407 (by unfold iR; omega) ?_
  refine x_sld C hT dL_law_408 (by omega) ?_
  refine y_i2 C dL_law_409 kyX4_make knX4_make kmL_56 o4 (c_X4_make l hX _ _) (by decide) (Nat.le_refl _) (Nat.le_refl _) (Nat.le_of_ble_eq_true rfl) (fun z4 w4 q4 => ?_)
  obtain ⟨e4, hX, f4⟩ := q4
  have hM := hM.frM f4 (by omega)
  obtain ⟨fs5, o5⟩ := hM.o5
  refine x_aload_n C dL_law_412 rfl ?_
  refine x_aload_n C dL_law_413 rfl ?_
  refine x_iload_n C dL_law_414 rfl ?_
  refine x_iconst C dL_law_415 ⟨by decide, by decide⟩ ?_
  refine x_iadd C dL_law_416 (by unfold iR; omega) ?_
  refine x_sld C hT dL_law_417 (by omega) ?_
  refine x_aload_n C dL_law_418 rfl ?_
  refine x_iload_n C dL_law_419 rfl ?_
  refine x_iconst C dL_law_420 ⟨by decide, by decide⟩ ?_
  refine x_iadd C dL_law_421 (by unfold iR; omega) ?_
  refine x_sld C hT dL_law_422 (by omega) ?_
  refine y_i2 C dL_law_423 kyX5_make knX5_make kmL_59 o5 (c_X5_make l hM hD _ _) (by decide) (Nat.le_refl _) (Nat.le_refl _) (Nat.le_of_ble_eq_true rfl) (fun z5 w5 q5 => ?_)
  obtain ⟨e5, hM, f5⟩ := q5
  have hX := hX.frX f5 (by omega)
  refine x_icmp_eq (tgt := 938) C dL_law_426 (by decide) (fun _ => ?_) (fun c9 => absurd (e4.trans e5.symm) c9)
  exact kx _ _ hX hM

set_option maxHeartbeats 1000000 in
set_option maxRecDepth 100000 in
theorem cs_11 {t : TX} {l : Launch} {b L n g : Nat} {xs : Nat → Int32} (C : Cb t l cL_law RL 4 (some .boolean) 8 140 3868) (hT : tL b L xs t) {w : mW} {D : mD} {i : Int} (hX : isX w g D) (hM : isM w (g + 116) D) (hi : 0 ≤ i ∧ i + 4 ≤ L) (hL : L ≤ 2048) (kx : ∀ (w' : mW) (D' : mD), isX w' g D' → isM w' (g + 116) D' → J t 140 3868 938 [some (vr b), some (vr g), some (vr (g + 116)), some (vi i)] [] n w') : J t 140 3868 431 [some (vr b), some (vr g), some (vr (g + 116)), some (vi i)] [] n w := by -- unfold
  have hD := hX.1
  obtain ⟨fs4, o4⟩ := hX.o4
  refine x_aload_n C dL_law_431 rfl ?_
  refine x_aload_n C dL_law_432 rfl ?_
  refine x_iload_n C dL_law_433 rfl ?_
  refine x_iconst C dL_law_434 ⟨by decide, by decide⟩ ?_
  refine x_iadd C dL_law_435 (by unfold iR; omega) ?_
  refine x_sld C hT dL_law_436 (by omega) ?_
  refine y_i1 C dL_law_437 kyX4_unfold knX4_unfold kmL_60 o4 (c_X4_unfold l hX _) (by decide) (Nat.le_refl _) (Nat.le_refl _) (Nat.le_of_ble_eq_true rfl) (fun z4 w4 q4 => ?_)
  obtain ⟨e4, hX, f4⟩ := q4
  have hM := hM.frM f4 (by omega)
  obtain ⟨fs5, o5⟩ := hM.o5
  refine x_aload_n C dL_law_440 rfl ?_
  refine x_aload_n C dL_law_441 rfl ?_
  refine x_iload_n C dL_law_442 rfl ?_
  refine x_iconst C dL_law_443 ⟨by decide, by decide⟩ ?_
  refine x_iadd C dL_law_444 (by unfold iR; omega) ?_
  refine x_sld C hT dL_law_445 (by omega) ?_
  refine y_i1 C dL_law_446 kyX5_unfold knX5_unfold kmL_63 o5 (c_X5_unfold l hM hD _) (by decide) (Nat.le_refl _) (Nat.le_refl _) (Nat.le_of_ble_eq_true rfl) (fun z5 w5 q5 => ?_)
  obtain ⟨e5, hM, f5⟩ := q5
  have hX := hX.frX f5 (by omega)
  refine x_icmp_eq (tgt := 938) C dL_law_449 (by decide) (fun _ => ?_) (fun c9 => absurd (e4.trans e5.symm) c9)
  exact kx _ _ hX hM

set_option maxHeartbeats 1000000 in
set_option maxRecDepth 100000 in
theorem cs_12 {t : TX} {l : Launch} {b L n g : Nat} {xs : Nat → Int32} (C : Cb t l cL_law RL 4 (some .boolean) 8 140 3868) (hT : tL b L xs t) {w : mW} {D : mD} {i : Int} (hX : isX w g D) (hM : isM w (g + 116) D) (hi : 0 ≤ i ∧ i + 4 ≤ L) (hL : L ≤ 2048) (kx : ∀ (w' : mW) (D' : mD), isX w' g D' → isM w' (g + 116) D' → J t 140 3868 938 [some (vr b), some (vr g), some (vr (g + 116)), some (vi i)] [] n w') : J t 140 3868 454 [some (vr b), some (vr g), some (vr (g + 116)), some (vi i)] [] n w := by -- set
  have hD := hX.1
  obtain ⟨fs4, o4⟩ := hX.o4
  refine x_aload_n C dL_law_454 rfl ?_
  refine x_aload_n C dL_law_455 rfl ?_
  refine x_iload_n C dL_law_456 rfl ?_
  refine x_iconst C dL_law_457 ⟨by decide, by decide⟩ ?_
  refine x_iadd C dL_law_458 (by unfold iR; omega) ?_
  refine x_sld C hT dL_law_459 (by omega) ?_
  refine x_aload_n C dL_law_460 rfl ?_
  refine x_iload_n C dL_law_461 rfl ?_
  refine x_iconst C dL_law_462 ⟨by decide, by decide⟩ ?_
  refine x_iadd C dL_law_463 (by unfold iR; omega) ?_
  refine x_sld C hT dL_law_464 (by omega) ?_
  refine y_i2 C dL_law_465 kyX4_set knX4_set kmL_64 o4 (c_X4_set l hX _ _) (by decide) (Nat.le_refl _) (Nat.le_refl _) (Nat.le_of_ble_eq_true rfl) (fun z4 w4 q4 => ?_)
  obtain ⟨e4, hX, f4⟩ := q4
  have hM := hM.frM f4 (by omega)
  obtain ⟨fs5, o5⟩ := hM.o5
  refine x_aload_n C dL_law_468 rfl ?_
  refine x_aload_n C dL_law_469 rfl ?_
  refine x_iload_n C dL_law_470 rfl ?_
  refine x_iconst C dL_law_471 ⟨by decide, by decide⟩ ?_
  refine x_iadd C dL_law_472 (by unfold iR; omega) ?_
  refine x_sld C hT dL_law_473 (by omega) ?_
  refine x_aload_n C dL_law_474 rfl ?_
  refine x_iload_n C dL_law_475 rfl ?_
  refine x_iconst C dL_law_476 ⟨by decide, by decide⟩ ?_
  refine x_iadd C dL_law_477 (by unfold iR; omega) ?_
  refine x_sld C hT dL_law_478 (by omega) ?_
  refine y_i2 C dL_law_479 kyX5_set knX5_set kmL_67 o5 (c_X5_set l hM hD _ _) (by decide) (Nat.le_refl _) (Nat.le_refl _) (Nat.le_of_ble_eq_true rfl) (fun z5 w5 q5 => ?_)
  obtain ⟨e5, hM, f5⟩ := q5
  have hX := hX.frX f5 (by omega)
  refine x_icmp_eq (tgt := 938) C dL_law_482 (by decide) (fun _ => ?_) (fun c9 => absurd (e4.trans e5.symm) c9)
  exact kx _ _ hX hM

set_option maxHeartbeats 1000000 in
set_option maxRecDepth 100000 in
theorem cs_13 {t : TX} {l : Launch} {b L n g : Nat} {xs : Nat → Int32} (C : Cb t l cL_law RL 4 (some .boolean) 8 140 3868) (hT : tL b L xs t) {w : mW} {D : mD} {i : Int} (hX : isX w g D) (hM : isM w (g + 116) D) (hi : 0 ≤ i ∧ i + 4 ≤ L) (hL : L ≤ 2048) (kx : ∀ (w' : mW) (D' : mD), isX w' g D' → isM w' (g + 116) D' → J t 140 3868 938 [some (vr b), some (vr g), some (vr (g + 116)), some (vi i)] [] n w') : J t 140 3868 487 [some (vr b), some (vr g), some (vr (g + 116)), some (vi i)] [] n w := by -- unset
  have hD := hX.1
  obtain ⟨fs4, o4⟩ := hX.o4
  refine x_aload_n C dL_law_487 rfl ?_
  refine x_aload_n C dL_law_488 rfl ?_
  refine x_iload_n C dL_law_489 rfl ?_
  refine x_iconst C dL_law_490 ⟨by decide, by decide⟩ ?_
  refine x_iadd C dL_law_491 (by unfold iR; omega) ?_
  refine x_sld C hT dL_law_492 (by omega) ?_
  refine y_i1 C dL_law_493 kyX4_unset knX4_unset kmL_68 o4 (c_X4_unset l hX _) (by decide) (Nat.le_refl _) (Nat.le_refl _) (Nat.le_of_ble_eq_true rfl) (fun z4 w4 q4 => ?_)
  obtain ⟨e4, hX, f4⟩ := q4
  have hM := hM.frM f4 (by omega)
  obtain ⟨fs5, o5⟩ := hM.o5
  refine x_aload_n C dL_law_496 rfl ?_
  refine x_aload_n C dL_law_497 rfl ?_
  refine x_iload_n C dL_law_498 rfl ?_
  refine x_iconst C dL_law_499 ⟨by decide, by decide⟩ ?_
  refine x_iadd C dL_law_500 (by unfold iR; omega) ?_
  refine x_sld C hT dL_law_501 (by omega) ?_
  refine y_i1 C dL_law_502 kyX5_unset knX5_unset kmL_71 o5 (c_X5_unset l hM hD _) (by decide) (Nat.le_refl _) (Nat.le_refl _) (Nat.le_of_ble_eq_true rfl) (fun z5 w5 q5 => ?_)
  obtain ⟨e5, hM, f5⟩ := q5
  have hX := hX.frX f5 (by omega)
  refine x_icmp_eq (tgt := 938) C dL_law_505 (by decide) (fun _ => ?_) (fun c9 => absurd (e4.trans e5.symm) c9)
  exact kx _ _ hX hM

set_option maxHeartbeats 1000000 in
set_option maxRecDepth 100000 in
theorem cs_14 {t : TX} {l : Launch} {b L n g : Nat} {xs : Nat → Int32} (C : Cb t l cL_law RL 4 (some .boolean) 8 140 3868) (hT : tL b L xs t) {w : mW} {D : mD} {i : Int} (hX : isX w g D) (hM : isM w (g + 116) D) (hi : 0 ≤ i ∧ i + 4 ≤ L) (hL : L ≤ 2048) (kx : ∀ (w' : mW) (D' : mD), isX w' g D' → isM w' (g + 116) D' → J t 140 3868 938 [some (vr b), some (vr g), some (vr (g + 116)), some (vi i)] [] n w') : J t 140 3868 510 [some (vr b), some (vr g), some (vr (g + 116)), some (vi i)] [] n w := by -- wide
  have hD := hX.1
  obtain ⟨fs4, o4⟩ := hX.o4
  refine x_aload_n C dL_law_510 rfl ?_
  refine x_aload_n C dL_law_511 rfl ?_
  refine x_iload_n C dL_law_512 rfl ?_
  refine x_iconst C dL_law_513 ⟨by decide, by decide⟩ ?_
  refine x_iadd C dL_law_514 (by unfold iR; omega) ?_
  refine x_sld C hT dL_law_515 (by omega) ?_
  refine x_aload_n C dL_law_516 rfl ?_
  refine x_iload_n C dL_law_517 rfl ?_
  refine x_iconst C dL_law_518 ⟨by decide, by decide⟩ ?_
  refine x_iadd C dL_law_519 (by unfold iR; omega) ?_
  refine x_sld C hT dL_law_520 (by omega) ?_
  refine x_aload_n C dL_law_521 rfl ?_
  refine x_iload_n C dL_law_522 rfl ?_
  refine x_iconst C dL_law_523 ⟨by decide, by decide⟩ ?_
  refine x_iadd C dL_law_524 (by unfold iR; omega) ?_
  refine x_sld C hT dL_law_525 (by omega) ?_
  refine y_i3 C dL_law_526 kyX4_wide knX4_wide kmL_72 o4 (c_X4_wide l hX _ _ _) (by decide) (Nat.le_refl _) (Nat.le_refl _) (Nat.le_of_ble_eq_true rfl) (fun z4 w4 q4 => ?_)
  obtain ⟨e4, hX, f4⟩ := q4
  have hM := hM.frM f4 (by omega)
  obtain ⟨fs5, o5⟩ := hM.o5
  refine x_aload_n C dL_law_529 rfl ?_
  refine x_aload_n C dL_law_530 rfl ?_
  refine x_iload_n C dL_law_531 rfl ?_
  refine x_iconst C dL_law_532 ⟨by decide, by decide⟩ ?_
  refine x_iadd C dL_law_533 (by unfold iR; omega) ?_
  refine x_sld C hT dL_law_534 (by omega) ?_
  refine x_aload_n C dL_law_535 rfl ?_
  refine x_iload_n C dL_law_536 rfl ?_
  refine x_iconst C dL_law_537 ⟨by decide, by decide⟩ ?_
  refine x_iadd C dL_law_538 (by unfold iR; omega) ?_
  refine x_sld C hT dL_law_539 (by omega) ?_
  refine x_aload_n C dL_law_540 rfl ?_
  refine x_iload_n C dL_law_541 rfl ?_
  refine x_iconst C dL_law_542 ⟨by decide, by decide⟩ ?_
  refine x_iadd C dL_law_543 (by unfold iR; omega) ?_
  refine x_sld C hT dL_law_544 (by omega) ?_
  refine y_i3 C dL_law_545 kyX5_wide knX5_wide kmL_76 o5 (c_X5_wide l hM hD _ _ _) (by decide) (Nat.le_refl _) (Nat.le_refl _) (Nat.le_of_ble_eq_true rfl) (fun z5 w5 q5 => ?_)
  obtain ⟨e5, hM, f5⟩ := q5
  have hX := hX.frX f5 (by omega)
  refine x_icmp_eq (tgt := 938) C dL_law_548 (by decide) (fun _ => ?_) (fun c9 => absurd (e4.trans e5.symm) c9)
  exact kx _ _ hX hM

set_option maxHeartbeats 1000000 in
set_option maxRecDepth 100000 in
theorem cs_15 {t : TX} {l : Launch} {b L n g : Nat} {xs : Nat → Int32} (C : Cb t l cL_law RL 4 (some .boolean) 8 140 3868) (hT : tL b L xs t) {w : mW} {D : mD} {i : Int} (hX : isX w g D) (hM : isM w (g + 116) D) (hi : 0 ≤ i ∧ i + 4 ≤ L) (hL : L ≤ 2048) (kx : ∀ (w' : mW) (D' : mD), isX w' g D' → isM w' (g + 116) D' → J t 140 3868 938 [some (vr b), some (vr g), some (vr (g + 116)), some (vi i)] [] n w') : J t 140 3868 553 [some (vr b), some (vr g), some (vr (g + 116)), some (vi i)] [] n w := by -- tabs
  have hD := hX.1
  obtain ⟨fs4, o4⟩ := hX.o4
  refine x_aload_n C dL_law_553 rfl ?_
  refine x_aload_n C dL_law_554 rfl ?_
  refine x_iload_n C dL_law_555 rfl ?_
  refine x_iconst C dL_law_556 ⟨by decide, by decide⟩ ?_
  refine x_iadd C dL_law_557 (by unfold iR; omega) ?_
  refine x_sld C hT dL_law_558 (by omega) ?_
  refine y_i1 C dL_law_559 kyX4_tabs knX4_tabs kmL_77 o4 (c_X4_tabs l hX _) (by decide) (Nat.le_refl _) (Nat.le_refl _) (Nat.le_of_ble_eq_true rfl) (fun z4 w4 q4 => ?_)
  obtain ⟨e4, hX, f4⟩ := q4
  have hM := hM.frM f4 (by omega)
  obtain ⟨fs5, o5⟩ := hM.o5
  refine x_aload_n C dL_law_562 rfl ?_
  refine x_aload_n C dL_law_563 rfl ?_
  refine x_iload_n C dL_law_564 rfl ?_
  refine x_iconst C dL_law_565 ⟨by decide, by decide⟩ ?_
  refine x_iadd C dL_law_566 (by unfold iR; omega) ?_
  refine x_sld C hT dL_law_567 (by omega) ?_
  refine y_i1 C dL_law_568 kyX5_tabs knX5_tabs kmL_80 o5 (c_X5_tabs l hM hD _) (by decide) (Nat.le_refl _) (Nat.le_refl _) (Nat.le_of_ble_eq_true rfl) (fun z5 w5 q5 => ?_)
  obtain ⟨e5, hM, f5⟩ := q5
  have hX := hX.frX f5 (by omega)
  refine x_icmp_eq (tgt := 938) C dL_law_571 (by decide) (fun _ => ?_) (fun c9 => absurd (e4.trans e5.symm) c9)
  exact kx _ _ hX hM

set_option maxHeartbeats 1000000 in
set_option maxRecDepth 100000 in
theorem cs_16 {t : TX} {l : Launch} {b L n g : Nat} {xs : Nat → Int32} (C : Cb t l cL_law RL 4 (some .boolean) 8 140 3868) (hT : tL b L xs t) {w : mW} {D : mD} {i : Int} (hX : isX w g D) (hM : isM w (g + 116) D) (hi : 0 ≤ i ∧ i + 4 ≤ L) (hL : L ≤ 2048) (kx : ∀ (w' : mW) (D' : mD), isX w' g D' → isM w' (g + 116) D' → J t 140 3868 938 [some (vr b), some (vr g), some (vr (g + 116)), some (vi i)] [] n w') : J t 140 3868 576 [some (vr b), some (vr g), some (vr (g + 116)), some (vi i)] [] n w := by -- undo
  have hD := hX.1
  obtain ⟨fs4, o4⟩ := hX.o4
  refine x_aload_n C dL_law_576 rfl ?_
  refine y_i0 C dL_law_577 kyX4_undo knX4_undo kmL_81 o4 (c_X4_undo l hX) (by decide) (Nat.le_refl _) (Nat.le_refl _) (Nat.le_of_ble_eq_true rfl) (fun z4 w4 q4 => ?_)
  obtain ⟨e4, hX, f4⟩ := q4
  have hM := hM.frM f4 (by omega)
  obtain ⟨fs5, o5⟩ := hM.o5
  refine x_aload_n C dL_law_580 rfl ?_
  refine y_i0 C dL_law_581 kyX5_undo knX5_undo kmL_84 o5 (c_X5_undo l hM hD) (by decide) (Nat.le_refl _) (Nat.le_refl _) (Nat.le_of_ble_eq_true rfl) (fun z5 w5 q5 => ?_)
  obtain ⟨e5, hM, f5⟩ := q5
  have hX := hX.frX f5 (by omega)
  refine x_icmp_eq (tgt := 938) C dL_law_584 (by decide) (fun _ => ?_) (fun c9 => absurd (e4.trans e5.symm) c9)
  exact kx _ _ hX hM

set_option maxHeartbeats 1000000 in
set_option maxRecDepth 100000 in
theorem cs_17 {t : TX} {l : Launch} {b L n g : Nat} {xs : Nat → Int32} (C : Cb t l cL_law RL 4 (some .boolean) 8 140 3868) (hT : tL b L xs t) {w : mW} {D : mD} {i : Int} (hX : isX w g D) (hM : isM w (g + 116) D) (hi : 0 ≤ i ∧ i + 4 ≤ L) (hL : L ≤ 2048) (kx : ∀ (w' : mW) (D' : mD), isX w' g D' → isM w' (g + 116) D' → J t 140 3868 938 [some (vr b), some (vr g), some (vr (g + 116)), some (vi i)] [] n w') : J t 140 3868 589 [some (vr b), some (vr g), some (vr (g + 116)), some (vi i)] [] n w := by -- stands
  have hD := hX.1
  obtain ⟨fs4, o4⟩ := hX.o4
  refine x_aload_n C dL_law_589 rfl ?_
  refine x_aload_n C dL_law_590 rfl ?_
  refine x_iload_n C dL_law_591 rfl ?_
  refine x_iconst C dL_law_592 ⟨by decide, by decide⟩ ?_
  refine x_iadd C dL_law_593 (by unfold iR; omega) ?_
  refine x_sld C hT dL_law_594 (by omega) ?_
  refine x_aload_n C dL_law_595 rfl ?_
  refine x_iload_n C dL_law_596 rfl ?_
  refine x_iconst C dL_law_597 ⟨by decide, by decide⟩ ?_
  refine x_iadd C dL_law_598 (by unfold iR; omega) ?_
  refine x_sld C hT dL_law_599 (by omega) ?_
  refine y_p2 C dL_law_600 kyX4_stands knX4_stands kmL_85 o4 (c_X4_stands l hX _ _) (by decide) (Nat.le_refl _) (Nat.le_refl _) (Nat.le_of_ble_eq_true rfl) (fun z4 e4 => ?_)
  obtain ⟨fs5, o5⟩ := hM.o5
  refine x_aload_n C dL_law_603 rfl ?_
  refine x_aload_n C dL_law_604 rfl ?_
  refine x_iload_n C dL_law_605 rfl ?_
  refine x_iconst C dL_law_606 ⟨by decide, by decide⟩ ?_
  refine x_iadd C dL_law_607 (by unfold iR; omega) ?_
  refine x_sld C hT dL_law_608 (by omega) ?_
  refine x_aload_n C dL_law_609 rfl ?_
  refine x_iload_n C dL_law_610 rfl ?_
  refine x_iconst C dL_law_611 ⟨by decide, by decide⟩ ?_
  refine x_iadd C dL_law_612 (by unfold iR; omega) ?_
  refine x_sld C hT dL_law_613 (by omega) ?_
  refine y_i2 C dL_law_614 kyX5_stands knX5_stands kmL_88 o5 (c_X5_stands l hM hD _ _) (by decide) (Nat.le_refl _) (Nat.le_refl _) (Nat.le_of_ble_eq_true rfl) (fun z5 w5 q5 => ?_)
  obtain ⟨e5, hM, f5⟩ := q5
  have hX := hX.frX f5 (by omega)
  refine x_icmp_eq (tgt := 938) C dL_law_617 (by decide) (fun _ => ?_) (fun c9 => absurd (e4.trans e5.symm) c9)
  exact kx _ _ hX hM

set_option maxHeartbeats 1000000 in
set_option maxRecDepth 100000 in
theorem cs_18 {t : TX} {l : Launch} {b L n g : Nat} {xs : Nat → Int32} (C : Cb t l cL_law RL 4 (some .boolean) 8 140 3868) (hT : tL b L xs t) {w : mW} {D : mD} {i : Int} (hX : isX w g D) (hM : isM w (g + 116) D) (hi : 0 ≤ i ∧ i + 4 ≤ L) (hL : L ≤ 2048) (kx : ∀ (w' : mW) (D' : mD), isX w' g D' → isM w' (g + 116) D' → J t 140 3868 938 [some (vr b), some (vr g), some (vr (g + 116)), some (vi i)] [] n w') : J t 140 3868 622 [some (vr b), some (vr g), some (vr (g + 116)), some (vi i)] [] n w := by -- place
  have hD := hX.1
  obtain ⟨fs4, o4⟩ := hX.o4
  refine x_aload_n C dL_law_622 rfl ?_
  refine x_aload_n C dL_law_623 rfl ?_
  refine x_iload_n C dL_law_624 rfl ?_
  refine x_iconst C dL_law_625 ⟨by decide, by decide⟩ ?_
  refine x_iadd C dL_law_626 (by unfold iR; omega) ?_
  refine x_sld C hT dL_law_627 (by omega) ?_
  refine x_aload_n C dL_law_628 rfl ?_
  refine x_iload_n C dL_law_629 rfl ?_
  refine x_iconst C dL_law_630 ⟨by decide, by decide⟩ ?_
  refine x_iadd C dL_law_631 (by unfold iR; omega) ?_
  refine x_sld C hT dL_law_632 (by omega) ?_
  refine y_p2 C dL_law_633 kyX4_place knX4_place kmL_89 o4 (c_X4_place l hX _ _) (by decide) (Nat.le_refl _) (Nat.le_refl _) (Nat.le_of_ble_eq_true rfl) (fun z4 e4 => ?_)
  obtain ⟨fs5, o5⟩ := hM.o5
  refine x_aload_n C dL_law_636 rfl ?_
  refine x_aload_n C dL_law_637 rfl ?_
  refine x_iload_n C dL_law_638 rfl ?_
  refine x_iconst C dL_law_639 ⟨by decide, by decide⟩ ?_
  refine x_iadd C dL_law_640 (by unfold iR; omega) ?_
  refine x_sld C hT dL_law_641 (by omega) ?_
  refine x_aload_n C dL_law_642 rfl ?_
  refine x_iload_n C dL_law_643 rfl ?_
  refine x_iconst C dL_law_644 ⟨by decide, by decide⟩ ?_
  refine x_iadd C dL_law_645 (by unfold iR; omega) ?_
  refine x_sld C hT dL_law_646 (by omega) ?_
  refine y_i2 C dL_law_647 kyX5_place knX5_place kmL_92 o5 (c_X5_place l hM hD _ _) (by decide) (Nat.le_refl _) (Nat.le_refl _) (Nat.le_of_ble_eq_true rfl) (fun z5 w5 q5 => ?_)
  obtain ⟨e5, hM, f5⟩ := q5
  have hX := hX.frX f5 (by omega)
  refine x_icmp_eq (tgt := 938) C dL_law_650 (by decide) (fun _ => ?_) (fun c9 => absurd (e4.trans e5.symm) c9)
  exact kx _ _ hX hM

set_option maxHeartbeats 1000000 in
set_option maxRecDepth 100000 in
theorem cs_19 {t : TX} {l : Launch} {b L n g : Nat} {xs : Nat → Int32} (C : Cb t l cL_law RL 4 (some .boolean) 8 140 3868) (hT : tL b L xs t) {w : mW} {D : mD} {i : Int} (hX : isX w g D) (hM : isM w (g + 116) D) (hi : 0 ≤ i ∧ i + 4 ≤ L) (hL : L ≤ 2048) (kx : ∀ (w' : mW) (D' : mD), isX w' g D' → isM w' (g + 116) D' → J t 140 3868 938 [some (vr b), some (vr g), some (vr (g + 116)), some (vi i)] [] n w') : J t 140 3868 655 [some (vr b), some (vr g), some (vr (g + 116)), some (vi i)] [] n w := by -- screen
  have hD := hX.1
  obtain ⟨fs4, o4⟩ := hX.o4
  refine x_aload_n C dL_law_655 rfl ?_
  refine x_aload_n C dL_law_656 rfl ?_
  refine x_iload_n C dL_law_657 rfl ?_
  refine x_iconst C dL_law_658 ⟨by decide, by decide⟩ ?_
  refine x_iadd C dL_law_659 (by unfold iR; omega) ?_
  refine x_sld C hT dL_law_660 (by omega) ?_
  refine x_aload_n C dL_law_661 rfl ?_
  refine x_iload_n C dL_law_662 rfl ?_
  refine x_iconst C dL_law_663 ⟨by decide, by decide⟩ ?_
  refine x_iadd C dL_law_664 (by unfold iR; omega) ?_
  refine x_sld C hT dL_law_665 (by omega) ?_
  refine y_p2 C dL_law_666 kyX4_screen knX4_screen kmL_93 o4 (c_X4_screen l hX _ _) (by decide) (Nat.le_refl _) (Nat.le_refl _) (Nat.le_of_ble_eq_true rfl) (fun z4 e4 => ?_)
  obtain ⟨fs5, o5⟩ := hM.o5
  refine x_aload_n C dL_law_669 rfl ?_
  refine x_aload_n C dL_law_670 rfl ?_
  refine x_iload_n C dL_law_671 rfl ?_
  refine x_iconst C dL_law_672 ⟨by decide, by decide⟩ ?_
  refine x_iadd C dL_law_673 (by unfold iR; omega) ?_
  refine x_sld C hT dL_law_674 (by omega) ?_
  refine x_aload_n C dL_law_675 rfl ?_
  refine x_iload_n C dL_law_676 rfl ?_
  refine x_iconst C dL_law_677 ⟨by decide, by decide⟩ ?_
  refine x_iadd C dL_law_678 (by unfold iR; omega) ?_
  refine x_sld C hT dL_law_679 (by omega) ?_
  refine y_i2 C dL_law_680 kyX5_screen knX5_screen kmL_96 o5 (c_X5_screen l hM hD _ _) (by decide) (Nat.le_refl _) (Nat.le_refl _) (Nat.le_of_ble_eq_true rfl) (fun z5 w5 q5 => ?_)
  obtain ⟨e5, hM, f5⟩ := q5
  have hX := hX.frX f5 (by omega)
  refine x_icmp_eq (tgt := 938) C dL_law_683 (by decide) (fun _ => ?_) (fun c9 => absurd (e4.trans e5.symm) c9)
  exact kx _ _ hX hM

set_option maxHeartbeats 1000000 in
set_option maxRecDepth 100000 in
theorem cs_20 {t : TX} {l : Launch} {b L n g : Nat} {xs : Nat → Int32} (C : Cb t l cL_law RL 4 (some .boolean) 8 140 3868) (hT : tL b L xs t) {w : mW} {D : mD} {i : Int} (hX : isX w g D) (hM : isM w (g + 116) D) (hi : 0 ≤ i ∧ i + 4 ≤ L) (hL : L ≤ 2048) (kx : ∀ (w' : mW) (D' : mD), isX w' g D' → isM w' (g + 116) D' → J t 140 3868 938 [some (vr b), some (vr g), some (vr (g + 116)), some (vi i)] [] n w') : J t 140 3868 688 [some (vr b), some (vr g), some (vr (g + 116)), some (vi i)] [] n w := by -- go
  have hD := hX.1
  obtain ⟨fs4, o4⟩ := hX.o4
  refine x_aload_n C dL_law_688 rfl ?_
  refine x_aload_n C dL_law_689 rfl ?_
  refine x_iload_n C dL_law_690 rfl ?_
  refine x_iconst C dL_law_691 ⟨by decide, by decide⟩ ?_
  refine x_iadd C dL_law_692 (by unfold iR; omega) ?_
  refine x_sld C hT dL_law_693 (by omega) ?_
  refine x_aload_n C dL_law_694 rfl ?_
  refine x_iload_n C dL_law_695 rfl ?_
  refine x_iconst C dL_law_696 ⟨by decide, by decide⟩ ?_
  refine x_iadd C dL_law_697 (by unfold iR; omega) ?_
  refine x_sld C hT dL_law_698 (by omega) ?_
  refine y_p2 C dL_law_699 kyX4_go knX4_go kmL_97 o4 (c_X4_go l hX _ _) (by decide) (Nat.le_refl _) (Nat.le_refl _) (Nat.le_of_ble_eq_true rfl) (fun z4 e4 => ?_)
  obtain ⟨fs5, o5⟩ := hM.o5
  refine x_aload_n C dL_law_702 rfl ?_
  refine x_aload_n C dL_law_703 rfl ?_
  refine x_iload_n C dL_law_704 rfl ?_
  refine x_iconst C dL_law_705 ⟨by decide, by decide⟩ ?_
  refine x_iadd C dL_law_706 (by unfold iR; omega) ?_
  refine x_sld C hT dL_law_707 (by omega) ?_
  refine x_aload_n C dL_law_708 rfl ?_
  refine x_iload_n C dL_law_709 rfl ?_
  refine x_iconst C dL_law_710 ⟨by decide, by decide⟩ ?_
  refine x_iadd C dL_law_711 (by unfold iR; omega) ?_
  refine x_sld C hT dL_law_712 (by omega) ?_
  refine y_i2 C dL_law_713 kyX5_go knX5_go kmL_100 o5 (c_X5_go l hM hD _ _) (by decide) (Nat.le_refl _) (Nat.le_refl _) (Nat.le_of_ble_eq_true rfl) (fun z5 w5 q5 => ?_)
  obtain ⟨e5, hM, f5⟩ := q5
  have hX := hX.frX f5 (by omega)
  refine x_icmp_eq (tgt := 938) C dL_law_716 (by decide) (fun _ => ?_) (fun c9 => absurd (q_go_u e4 e5) c9)
  exact kx _ _ hX hM

set_option maxHeartbeats 1000000 in
set_option maxRecDepth 100000 in
theorem cs_21 {t : TX} {l : Launch} {b L n g : Nat} {xs : Nat → Int32} (C : Cb t l cL_law RL 4 (some .boolean) 8 140 3868) (hT : tL b L xs t) {w : mW} {D : mD} {i : Int} (hX : isX w g D) (hM : isM w (g + 116) D) (hi : 0 ≤ i ∧ i + 4 ≤ L) (hL : L ≤ 2048) (kx : ∀ (w' : mW) (D' : mD), isX w' g D' → isM w' (g + 116) D' → J t 140 3868 938 [some (vr b), some (vr g), some (vr (g + 116)), some (vi i)] [] n w') : J t 140 3868 721 [some (vr b), some (vr g), some (vr (g + 116)), some (vi i)] [] n w := by -- row
  have hD := hX.1
  obtain ⟨fs4, o4⟩ := hX.o4
  refine x_aload_n C dL_law_721 rfl ?_
  refine x_aload_n C dL_law_722 rfl ?_
  refine x_iload_n C dL_law_723 rfl ?_
  refine x_iconst C dL_law_724 ⟨by decide, by decide⟩ ?_
  refine x_iadd C dL_law_725 (by unfold iR; omega) ?_
  refine x_sld C hT dL_law_726 (by omega) ?_
  refine x_aload_n C dL_law_727 rfl ?_
  refine x_iload_n C dL_law_728 rfl ?_
  refine x_iconst C dL_law_729 ⟨by decide, by decide⟩ ?_
  refine x_iadd C dL_law_730 (by unfold iR; omega) ?_
  refine x_sld C hT dL_law_731 (by omega) ?_
  refine y_p2 C dL_law_732 kyX4_row knX4_row kmL_101 o4 (c_X4_row l hX _ _) (by decide) (Nat.le_refl _) (Nat.le_refl _) (Nat.le_of_ble_eq_true rfl) (fun z4 e4 => ?_)
  obtain ⟨fs5, o5⟩ := hM.o5
  refine x_aload_n C dL_law_735 rfl ?_
  refine x_aload_n C dL_law_736 rfl ?_
  refine x_iload_n C dL_law_737 rfl ?_
  refine x_iconst C dL_law_738 ⟨by decide, by decide⟩ ?_
  refine x_iadd C dL_law_739 (by unfold iR; omega) ?_
  refine x_sld C hT dL_law_740 (by omega) ?_
  refine x_aload_n C dL_law_741 rfl ?_
  refine x_iload_n C dL_law_742 rfl ?_
  refine x_iconst C dL_law_743 ⟨by decide, by decide⟩ ?_
  refine x_iadd C dL_law_744 (by unfold iR; omega) ?_
  refine x_sld C hT dL_law_745 (by omega) ?_
  refine y_i2 C dL_law_746 kyX5_row knX5_row kmL_104 o5 (c_X5_row l hM hD _ _) (by decide) (Nat.le_refl _) (Nat.le_refl _) (Nat.le_of_ble_eq_true rfl) (fun z5 w5 q5 => ?_)
  obtain ⟨e5, hM, f5⟩ := q5
  have hX := hX.frX f5 (by omega)
  refine x_icmp_eq (tgt := 938) C dL_law_749 (by decide) (fun _ => ?_) (fun c9 => absurd (e4.trans e5.symm) c9)
  exact kx _ _ hX hM

set_option maxHeartbeats 1000000 in
set_option maxRecDepth 100000 in
theorem cs_22 {t : TX} {l : Launch} {b L n g : Nat} {xs : Nat → Int32} (C : Cb t l cL_law RL 4 (some .boolean) 8 140 3868) (hT : tL b L xs t) {w : mW} {D : mD} {i : Int} (hX : isX w g D) (hM : isM w (g + 116) D) (hi : 0 ≤ i ∧ i + 4 ≤ L) (hL : L ≤ 2048) (kx : ∀ (w' : mW) (D' : mD), isX w' g D' → isM w' (g + 116) D' → J t 140 3868 938 [some (vr b), some (vr g), some (vr (g + 116)), some (vi i)] [] n w') : J t 140 3868 754 [some (vr b), some (vr g), some (vr (g + 116)), some (vi i)] [] n w := by -- changed
  have hD := hX.1
  obtain ⟨fs4, o4⟩ := hX.o4
  refine x_aload_n C dL_law_754 rfl ?_
  refine x_aload_n C dL_law_755 rfl ?_
  refine x_iload_n C dL_law_756 rfl ?_
  refine x_iconst C dL_law_757 ⟨by decide, by decide⟩ ?_
  refine x_iadd C dL_law_758 (by unfold iR; omega) ?_
  refine x_sld C hT dL_law_759 (by omega) ?_
  refine y_p1 C dL_law_760 kyX4_changed knX4_changed kmL_105 o4 (c_X4_changed l hX _) (by decide) (Nat.le_refl _) (Nat.le_refl _) (Nat.le_of_ble_eq_true rfl) (fun z4 e4 => ?_)
  obtain ⟨fs5, o5⟩ := hM.o5
  refine x_aload_n C dL_law_763 rfl ?_
  refine x_aload_n C dL_law_764 rfl ?_
  refine x_iload_n C dL_law_765 rfl ?_
  refine x_iconst C dL_law_766 ⟨by decide, by decide⟩ ?_
  refine x_iadd C dL_law_767 (by unfold iR; omega) ?_
  refine x_sld C hT dL_law_768 (by omega) ?_
  refine y_i1 C dL_law_769 kyX5_changed knX5_changed kmL_108 o5 (c_X5_changed l hM hD _) (by decide) (Nat.le_refl _) (Nat.le_refl _) (Nat.le_of_ble_eq_true rfl) (fun z5 w5 q5 => ?_)
  obtain ⟨e5, hM, f5⟩ := q5
  have hX := hX.frX f5 (by omega)
  refine x_icmp_eq (tgt := 938) C dL_law_772 (by decide) (fun _ => ?_) (fun c9 => absurd (e4.trans e5.symm) c9)
  exact kx _ _ hX hM

set_option maxHeartbeats 1000000 in
set_option maxRecDepth 100000 in
theorem cs_23 {t : TX} {l : Launch} {b L n g : Nat} {xs : Nat → Int32} (C : Cb t l cL_law RL 4 (some .boolean) 8 140 3868) (hT : tL b L xs t) {w : mW} {D : mD} {i : Int} (hX : isX w g D) (hM : isM w (g + 116) D) (hi : 0 ≤ i ∧ i + 4 ≤ L) (hL : L ≤ 2048) (kx : ∀ (w' : mW) (D' : mD), isX w' g D' → isM w' (g + 116) D' → J t 140 3868 938 [some (vr b), some (vr g), some (vr (g + 116)), some (vi i)] [] n w') : J t 140 3868 777 [some (vr b), some (vr g), some (vr (g + 116)), some (vi i)] [] n w := by -- fit
  have hD := hX.1
  obtain ⟨fs4, o4⟩ := hX.o4
  refine x_aload_n C dL_law_777 rfl ?_
  refine x_aload_n C dL_law_778 rfl ?_
  refine x_iload_n C dL_law_779 rfl ?_
  refine x_iconst C dL_law_780 ⟨by decide, by decide⟩ ?_
  refine x_iadd C dL_law_781 (by unfold iR; omega) ?_
  refine x_sld C hT dL_law_782 (by omega) ?_
  refine y_i1 C dL_law_783 kyX4_fit knX4_fit kmL_109 o4 (c_X4_fit l hX _) (by decide) (Nat.le_refl _) (Nat.le_refl _) (Nat.le_of_ble_eq_true rfl) (fun z4 w4 q4 => ?_)
  obtain ⟨e4, hX, f4⟩ := q4
  have hM := hM.frM f4 (by omega)
  obtain ⟨fs5, o5⟩ := hM.o5
  refine x_aload_n C dL_law_786 rfl ?_
  refine x_aload_n C dL_law_787 rfl ?_
  refine x_iload_n C dL_law_788 rfl ?_
  refine x_iconst C dL_law_789 ⟨by decide, by decide⟩ ?_
  refine x_iadd C dL_law_790 (by unfold iR; omega) ?_
  refine x_sld C hT dL_law_791 (by omega) ?_
  refine y_i1 C dL_law_792 kyX5_fit knX5_fit kmL_112 o5 (c_X5_fit l hM hD _) (by decide) (Nat.le_refl _) (Nat.le_refl _) (Nat.le_of_ble_eq_true rfl) (fun z5 w5 q5 => ?_)
  obtain ⟨e5, hM, f5⟩ := q5
  have hX := hX.frX f5 (by omega)
  refine x_icmp_eq (tgt := 938) C dL_law_795 (by decide) (fun _ => ?_) (fun c9 => absurd (e4.trans e5.symm) c9)
  exact kx _ _ hX hM

set_option maxHeartbeats 1000000 in
set_option maxRecDepth 100000 in
theorem cs_24 {t : TX} {l : Launch} {b L n g : Nat} {xs : Nat → Int32} (C : Cb t l cL_law RL 4 (some .boolean) 8 140 3868) (hT : tL b L xs t) {w : mW} {D : mD} {i : Int} (hX : isX w g D) (hM : isM w (g + 116) D) (hi : 0 ≤ i ∧ i + 4 ≤ L) (hL : L ≤ 2048) (kx : ∀ (w' : mW) (D' : mD), isX w' g D' → isM w' (g + 116) D' → J t 140 3868 938 [some (vr b), some (vr g), some (vr (g + 116)), some (vi i)] [] n w') : J t 140 3868 800 [some (vr b), some (vr g), some (vr (g + 116)), some (vi i)] [] n w := by -- saves
  have hD := hX.1
  obtain ⟨fs4, o4⟩ := hX.o4
  refine x_aload_n C dL_law_800 rfl ?_
  refine x_aload_n C dL_law_801 rfl ?_
  refine x_iload_n C dL_law_802 rfl ?_
  refine x_iconst C dL_law_803 ⟨by decide, by decide⟩ ?_
  refine x_iadd C dL_law_804 (by unfold iR; omega) ?_
  refine x_sld C hT dL_law_805 (by omega) ?_
  refine y_i1 C dL_law_806 kyX4_saves knX4_saves kmL_113 o4 (c_X4_saves l hX _) (by decide) (Nat.le_refl _) (Nat.le_refl _) (Nat.le_of_ble_eq_true rfl) (fun z4 w4 q4 => ?_)
  obtain ⟨e4, hX, f4⟩ := q4
  have hM := hM.frM f4 (by omega)
  obtain ⟨fs5, o5⟩ := hM.o5
  refine x_aload_n C dL_law_809 rfl ?_
  refine x_aload_n C dL_law_810 rfl ?_
  refine x_iload_n C dL_law_811 rfl ?_
  refine x_iconst C dL_law_812 ⟨by decide, by decide⟩ ?_
  refine x_iadd C dL_law_813 (by unfold iR; omega) ?_
  refine x_sld C hT dL_law_814 (by omega) ?_
  refine y_i1 C dL_law_815 kyX5_saves knX5_saves kmL_116 o5 (c_X5_saves l hM hD _) (by decide) (Nat.le_refl _) (Nat.le_refl _) (Nat.le_of_ble_eq_true rfl) (fun z5 w5 q5 => ?_)
  obtain ⟨e5, hM, f5⟩ := q5
  have hX := hX.frX f5 (by omega)
  refine x_icmp_eq (tgt := 938) C dL_law_818 (by decide) (fun _ => ?_) (fun c9 => absurd (e4.trans e5.symm) c9)
  exact kx _ _ hX hM

set_option maxHeartbeats 1000000 in
set_option maxRecDepth 100000 in
theorem cs_25 {t : TX} {l : Launch} {b L n g : Nat} {xs : Nat → Int32} (C : Cb t l cL_law RL 4 (some .boolean) 8 140 3868) (hT : tL b L xs t) {w : mW} {D : mD} {i : Int} (hX : isX w g D) (hM : isM w (g + 116) D) (hi : 0 ≤ i ∧ i + 4 ≤ L) (hL : L ≤ 2048) (kx : ∀ (w' : mW) (D' : mD), isX w' g D' → isM w' (g + 116) D' → J t 140 3868 938 [some (vr b), some (vr g), some (vr (g + 116)), some (vi i)] [] n w') : J t 140 3868 823 [some (vr b), some (vr g), some (vr (g + 116)), some (vi i)] [] n w := by -- tight
  have hD := hX.1
  obtain ⟨fs4, o4⟩ := hX.o4
  refine x_aload_n C dL_law_823 rfl ?_
  refine x_aload_n C dL_law_824 rfl ?_
  refine x_iload_n C dL_law_825 rfl ?_
  refine x_iconst C dL_law_826 ⟨by decide, by decide⟩ ?_
  refine x_iadd C dL_law_827 (by unfold iR; omega) ?_
  refine x_sld C hT dL_law_828 (by omega) ?_
  refine y_i1 C dL_law_829 kyX4_tight knX4_tight kmL_117 o4 (c_X4_tight l hX _) (by decide) (Nat.le_refl _) (Nat.le_refl _) (Nat.le_of_ble_eq_true rfl) (fun z4 w4 q4 => ?_)
  obtain ⟨e4, hX, f4⟩ := q4
  have hM := hM.frM f4 (by omega)
  obtain ⟨fs5, o5⟩ := hM.o5
  refine x_aload_n C dL_law_832 rfl ?_
  refine x_aload_n C dL_law_833 rfl ?_
  refine x_iload_n C dL_law_834 rfl ?_
  refine x_iconst C dL_law_835 ⟨by decide, by decide⟩ ?_
  refine x_iadd C dL_law_836 (by unfold iR; omega) ?_
  refine x_sld C hT dL_law_837 (by omega) ?_
  refine y_i1 C dL_law_838 kyX5_tight knX5_tight kmL_120 o5 (c_X5_tight l hM hD _) (by decide) (Nat.le_refl _) (Nat.le_refl _) (Nat.le_of_ble_eq_true rfl) (fun z5 w5 q5 => ?_)
  obtain ⟨e5, hM, f5⟩ := q5
  have hX := hX.frX f5 (by omega)
  refine x_icmp_eq (tgt := 938) C dL_law_841 (by decide) (fun _ => ?_) (fun c9 => absurd (e4.trans e5.symm) c9)
  exact kx _ _ hX hM

set_option maxHeartbeats 1000000 in
set_option maxRecDepth 100000 in
theorem cs_26 {t : TX} {l : Launch} {b L n g : Nat} {xs : Nat → Int32} (C : Cb t l cL_law RL 4 (some .boolean) 8 140 3868) (hT : tL b L xs t) {w : mW} {D : mD} {i : Int} (hX : isX w g D) (hM : isM w (g + 116) D) (hi : 0 ≤ i ∧ i + 4 ≤ L) (hL : L ≤ 2048) (kx : ∀ (w' : mW) (D' : mD), isX w' g D' → isM w' (g + 116) D' → J t 140 3868 938 [some (vr b), some (vr g), some (vr (g + 116)), some (vi i)] [] n w') : J t 140 3868 846 [some (vr b), some (vr g), some (vr (g + 116)), some (vi i)] [] n w := by -- day
  have hD := hX.1
  obtain ⟨fs4, o4⟩ := hX.o4
  refine x_aload_n C dL_law_846 rfl ?_
  refine x_aload_n C dL_law_847 rfl ?_
  refine x_iload_n C dL_law_848 rfl ?_
  refine x_iconst C dL_law_849 ⟨by decide, by decide⟩ ?_
  refine x_iadd C dL_law_850 (by unfold iR; omega) ?_
  refine x_sld C hT dL_law_851 (by omega) ?_
  refine x_aload_n C dL_law_852 rfl ?_
  refine x_iload_n C dL_law_853 rfl ?_
  refine x_iconst C dL_law_854 ⟨by decide, by decide⟩ ?_
  refine x_iadd C dL_law_855 (by unfold iR; omega) ?_
  refine x_sld C hT dL_law_856 (by omega) ?_
  refine x_aload_n C dL_law_857 rfl ?_
  refine x_iload_n C dL_law_858 rfl ?_
  refine x_iconst C dL_law_859 ⟨by decide, by decide⟩ ?_
  refine x_iadd C dL_law_860 (by unfold iR; omega) ?_
  refine x_sld C hT dL_law_861 (by omega) ?_
  refine y_i3 C dL_law_862 kyX4_day knX4_day kmL_121 o4 (c_X4_day l hX _ _ _) (by decide) (Nat.le_refl _) (Nat.le_refl _) (Nat.le_of_ble_eq_true rfl) (fun z4 w4 q4 => ?_)
  obtain ⟨e4, hX, f4⟩ := q4
  have hM := hM.frM f4 (by omega)
  obtain ⟨fs5, o5⟩ := hM.o5
  refine x_aload_n C dL_law_865 rfl ?_
  refine x_aload_n C dL_law_866 rfl ?_
  refine x_iload_n C dL_law_867 rfl ?_
  refine x_iconst C dL_law_868 ⟨by decide, by decide⟩ ?_
  refine x_iadd C dL_law_869 (by unfold iR; omega) ?_
  refine x_sld C hT dL_law_870 (by omega) ?_
  refine x_aload_n C dL_law_871 rfl ?_
  refine x_iload_n C dL_law_872 rfl ?_
  refine x_iconst C dL_law_873 ⟨by decide, by decide⟩ ?_
  refine x_iadd C dL_law_874 (by unfold iR; omega) ?_
  refine x_sld C hT dL_law_875 (by omega) ?_
  refine x_aload_n C dL_law_876 rfl ?_
  refine x_iload_n C dL_law_877 rfl ?_
  refine x_iconst C dL_law_878 ⟨by decide, by decide⟩ ?_
  refine x_iadd C dL_law_879 (by unfold iR; omega) ?_
  refine x_sld C hT dL_law_880 (by omega) ?_
  refine y_i3 C dL_law_881 kyX5_day knX5_day kmL_124 o5 (c_X5_day l hM hD _ _ _) (by decide) (Nat.le_refl _) (Nat.le_refl _) (Nat.le_of_ble_eq_true rfl) (fun z5 w5 q5 => ?_)
  obtain ⟨e5, hM, f5⟩ := q5
  have hX := hX.frX f5 (by omega)
  refine x_icmp_eq (tgt := 938) C dL_law_884 (by decide) (fun _ => ?_) (fun c9 => absurd (e4.trans e5.symm) c9)
  exact kx _ _ hX hM

set_option maxHeartbeats 1000000 in
set_option maxRecDepth 100000 in
theorem cs_27 {t : TX} {l : Launch} {b L n g : Nat} {xs : Nat → Int32} (C : Cb t l cL_law RL 4 (some .boolean) 8 140 3868) (hT : tL b L xs t) {w : mW} {D : mD} {i : Int} (hX : isX w g D) (hM : isM w (g + 116) D) (hi : 0 ≤ i ∧ i + 4 ≤ L) (hL : L ≤ 2048) (kx : ∀ (w' : mW) (D' : mD), isX w' g D' → isM w' (g + 116) D' → J t 140 3868 938 [some (vr b), some (vr g), some (vr (g + 116)), some (vi i)] [] n w') : J t 140 3868 889 [some (vr b), some (vr g), some (vr (g + 116)), some (vi i)] [] n w := by -- keep
  have hD := hX.1
  obtain ⟨fs4, o4⟩ := hX.o4
  refine x_aload_n C dL_law_889 rfl ?_
  refine y_i0 C dL_law_890 kyX4_keep knX4_keep kmL_125 o4 (c_X4_keep l hX) (by decide) (Nat.le_refl _) (Nat.le_refl _) (Nat.le_of_ble_eq_true rfl) (fun z4 w4 q4 => ?_)
  obtain ⟨e4, hX, f4⟩ := q4
  have hM := hM.frM f4 (by omega)
  obtain ⟨fs5, o5⟩ := hM.o5
  refine x_aload_n C dL_law_893 rfl ?_
  refine y_i0 C dL_law_894 kyX5_keep knX5_keep kmL_128 o5 (c_X5_keep l hM hD) (by decide) (Nat.le_refl _) (Nat.le_refl _) (Nat.le_of_ble_eq_true rfl) (fun z5 w5 q5 => ?_)
  obtain ⟨e5, hM, f5⟩ := q5
  have hX := hX.frX f5 (by omega)
  refine x_icmp_eq (tgt := 938) C dL_law_897 (by decide) (fun _ => ?_) (fun c9 => absurd (e4.trans e5.symm) c9)
  exact kx _ _ hX hM

set_option maxHeartbeats 1000000 in
set_option maxRecDepth 100000 in
theorem cs_28 {t : TX} {l : Launch} {b L n g : Nat} {xs : Nat → Int32} (C : Cb t l cL_law RL 4 (some .boolean) 8 140 3868) (hT : tL b L xs t) {w : mW} {D : mD} {i : Int} (hX : isX w g D) (hM : isM w (g + 116) D) (hi : 0 ≤ i ∧ i + 4 ≤ L) (hL : L ≤ 2048) (kx : ∀ (w' : mW) (D' : mD), isX w' g D' → isM w' (g + 116) D' → J t 140 3868 938 [some (vr b), some (vr g), some (vr (g + 116)), some (vi i)] [] n w') : J t 140 3868 902 [some (vr b), some (vr g), some (vr (g + 116)), some (vi i)] [] n w := by -- back
  have hD := hX.1
  obtain ⟨fs4, o4⟩ := hX.o4
  refine x_aload_n C dL_law_902 rfl ?_
  refine y_i0 C dL_law_903 kyX4_back knX4_back kmL_129 o4 (c_X4_back l hX) (by decide) (Nat.le_refl _) (Nat.le_refl _) (Nat.le_of_ble_eq_true rfl) (fun z4 w4 q4 => ?_)
  obtain ⟨e4, hX, f4⟩ := q4
  have hM := hM.frM f4 (by omega)
  obtain ⟨fs5, o5⟩ := hM.o5
  refine x_aload_n C dL_law_906 rfl ?_
  refine y_i0 C dL_law_907 kyX5_back knX5_back kmL_132 o5 (c_X5_back l hM hD) (by decide) (Nat.le_refl _) (Nat.le_refl _) (Nat.le_of_ble_eq_true rfl) (fun z5 w5 q5 => ?_)
  obtain ⟨e5, hM, f5⟩ := q5
  have hX := hX.frX f5 (by omega)
  refine x_icmp_eq (tgt := 938) C dL_law_910 (by decide) (fun _ => ?_) (fun c9 => absurd (e4.trans e5.symm) c9)
  exact kx _ _ hX hM

set_option maxHeartbeats 1000000 in
set_option maxRecDepth 100000 in
theorem cs_29 {t : TX} {l : Launch} {b L n g : Nat} {xs : Nat → Int32} (C : Cb t l cL_law RL 4 (some .boolean) 8 140 3868) (hT : tL b L xs t) {w : mW} {D : mD} {i : Int} (hX : isX w g D) (hM : isM w (g + 116) D) (hi : 0 ≤ i ∧ i + 4 ≤ L) (hL : L ≤ 2048) (kx : ∀ (w' : mW) (D' : mD), isX w' g D' → isM w' (g + 116) D' → J t 140 3868 938 [some (vr b), some (vr g), some (vr (g + 116)), some (vi i)] [] n w') : J t 140 3868 915 [some (vr b), some (vr g), some (vr (g + 116)), some (vi i)] [] n w := by -- count
  have hD := hX.1
  obtain ⟨fs4, o4⟩ := hX.o4
  refine x_aload_n C dL_law_915 rfl ?_
  refine x_aload_n C dL_law_916 rfl ?_
  refine x_iload_n C dL_law_917 rfl ?_
  refine x_iconst C dL_law_918 ⟨by decide, by decide⟩ ?_
  refine x_iadd C dL_law_919 (by unfold iR; omega) ?_
  refine x_sld C hT dL_law_920 (by omega) ?_
  refine y_p1 C dL_law_921 kyX4_count knX4_count kmL_133 o4 (c_X4_count l hX _) (by decide) (Nat.le_refl _) (Nat.le_refl _) (Nat.le_of_ble_eq_true rfl) (fun z4 e4 => ?_)
  obtain ⟨fs5, o5⟩ := hM.o5
  refine x_aload_n C dL_law_924 rfl ?_
  refine x_aload_n C dL_law_925 rfl ?_
  refine x_iload_n C dL_law_926 rfl ?_
  refine x_iconst C dL_law_927 ⟨by decide, by decide⟩ ?_
  refine x_iadd C dL_law_928 (by unfold iR; omega) ?_
  refine x_sld C hT dL_law_929 (by omega) ?_
  refine y_i1 C dL_law_930 kyX5_count knX5_count kmL_136 o5 (c_X5_count l hM hD _) (by decide) (Nat.le_refl _) (Nat.le_refl _) (Nat.le_of_ble_eq_true rfl) (fun z5 w5 q5 => ?_)
  obtain ⟨e5, hM, f5⟩ := q5
  have hX := hX.frX f5 (by omega)
  refine x_icmp_eq (tgt := 938) C dL_law_933 (by decide) (fun _ => ?_) (fun c9 => absurd (e4.trans e5.symm) c9)
  exact kx _ _ hX hM
