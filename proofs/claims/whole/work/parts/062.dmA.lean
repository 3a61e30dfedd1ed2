/-! ===== DisplayMap: questions ===== -/
theorem flw_rows {mo wi nd tb : Int} : ∀ (L : List mI) (pw fl : Bool) (rw : List (Int × Int)) (cs col : Int), rw.length + 1 ≤ (flw mo wi nd tb L pw fl rw cs col).2.length ∧ ∀ q ∈ (flw mo wi nd tb L pw fl rw cs col).1, (rw.length : Int) ≤ q.2.2.1 ∧ q.2.2.1 < ((flw mo wi nd tb L pw fl rw cs col).2.length : Int)
  | [], pw, fl, rw, cs, col => by simp [flw]
  | x :: L, pw, fl, rw, cs, col => by
    rw [flw]
    split
    · have h1 := flw_rows L (isWc x.1) true (rw ++ [(col, cs)]) 0 (nd + widF tb nd x.1 x.2.2) (mo := mo) (wi := wi) (nd := nd) (tb := tb)
      simp only [List.length_append, List.length_cons, List.length_nil] at h1
      simp only
      refine ⟨by omega, fun q hq => ?_⟩
      rcases List.mem_cons.mp hq with h2 | h2
      · subst h2; simp only; omega
      · have := h1.2 q h2
        omega
    · simp only
      split
      · have h1 := flw_rows L false false (rw ++ [(col + widF tb col x.1 x.2.2, cs)]) 1 0 (mo := mo) (wi := wi) (nd := nd) (tb := tb)
        simp only [List.length_append, List.length_cons, List.length_nil] at h1
        refine ⟨by omega, fun q hq => ?_⟩
        rcases List.mem_cons.mp hq with h2 | h2
        · subst h2; simp only; omega
        · have := h1.2 q h2
          omega
      · have h1 := flw_rows L (isWc x.1) true rw cs (col + widF tb col x.1 x.2.2) (mo := mo) (wi := wi) (nd := nd) (tb := tb)
        refine ⟨by omega, fun q hq => ?_⟩
        rcases List.mem_cons.mp hq with h2 | h2
        · subst h2; simp only; omega
        · have := h1.2 q h2
          omega
theorem scr_rows (F : mF) : 1 ≤ (scr F).2.length ∧ ∀ q ∈ (scr F).1, 0 ≤ q.2.2.1 ∧ q.2.2.1 < ((scr F).2.length : Int) := by
  have h1 := flw_rows (its F.1.1 F.1.2.1 F.1.2.2) false false [] 1 0 (mo := F.2.1) (wi := F.2.2.1) (nd := F.2.2.2.1) (tb := F.2.2.2.2)
  simp only [List.length_nil] at h1
  exact ⟨by have := h1.1; exact this, fun q hq => by have := h1.2 q hq; exact ⟨by omega, this.2⟩⟩
theorem rowP_bd {F : mF} {p : Int} (hl : (scr F).1.length ≤ 44 ∧ (scr F).2.length ≤ 45) : -1 ≤ rowP F p ∧ rowP F p ≤ 45 := by
  obtain ⟨h1, h2⟩ := scr_rows F
  unfold rowP
  split
  · omega
  · by_cases h3 : (itmP F p).toNat < ((scr F).1.map (fun q : mP => q.2.2.1)).length
    · have h4 := getD_mem h3
      obtain ⟨q, hq, e⟩ := List.mem_map.mp h4
      have := h2 q hq
      omega
    · rw [List.getD_eq_getElem?_getD, List.getElem?_eq_none (by omega)]
      simp

set_option maxHeartbeats 1000000 in
set_option maxRecDepth 100000 in
theorem c_X4_isColumn (l : Launch) {w : mW} (p : Int) : Cp l yX4_isColumn cX4_isColumn 1 (some .boolean) 0 [vi p] w (fun z => (z = 0 ∨ z = 1) ∧ (z = 1 ↔ 0 ≤ p ∧ p ≤ 99)) := by
  refine Cp.of (ml := [some (vi p)]) kyX4_isColumn rfl (Nat.le_of_ble_eq_true rfl) rfl ?_
  intro t n C hQ
  refine x_iload_n C dX4_isColumn_0 rfl ?_
  refine x_if_lt (tgt := 14) C dX4_isColumn_1 (by decide) (fun c1 => ?_) (fun c1 => ?_)
  · refine x_iconst C dX4_isColumn_14 ⟨by decide, by decide⟩ ?_
    refine x_zret C hQ dX4_isColumn_15 (by first | exact Or.inl rfl | exact Or.inr rfl | omega) (Nat.le_refl _) (Nat.le_refl _) ?_
    exact ⟨rfl, rfl, _, rfl, by omega, by omega⟩
  · refine x_iload_n C dX4_isColumn_4 rfl ?_
    refine x_bipush C dX4_isColumn_5 ⟨by decide, by decide⟩ ?_
    refine x_icmp_gt (tgt := 14) C dX4_isColumn_7 (by decide) (fun c7 => ?_) (fun c7 => ?_)
    · refine x_iconst C dX4_isColumn_14 ⟨by decide, by decide⟩ ?_
      refine x_zret C hQ dX4_isColumn_15 (by first | exact Or.inl rfl | exact Or.inr rfl | omega) (Nat.le_refl _) (Nat.le_refl _) ?_
      exact ⟨rfl, rfl, _, rfl, by omega, by omega⟩
    · refine x_iconst C dX4_isColumn_10 ⟨by decide, by decide⟩ ?_
      refine x_goto (tgt := 15) C dX4_isColumn_11 (by decide) ?_
      refine x_zret C hQ dX4_isColumn_15 (by first | exact Or.inl rfl | exact Or.inr rfl | omega) (Nat.le_refl _) (Nat.le_refl _) ?_
      exact ⟨rfl, rfl, _, rfl, by omega, by omega⟩

theorem drw_bd {z k : Int} (hz : 0 ≤ z ∧ z ≤ 9999) (hk : 0 ≤ k ∧ k ≤ 1000) : 0 ≤ (7919 * z + 6151 * k + 1) * (7919 * z + 6151 * k + 1) ∧ (7919 * z + 6151 * k + 1) * (7919 * z + 6151 * k + 1) ≤ 10000000000000000 := by
  have h1 : 0 ≤ 7919 * z + 6151 * k + 1 := by omega
  have h2 : 7919 * z + 6151 * k + 1 ≤ 100000000 := by omega
  refine ⟨Int.mul_nonneg h1 h1, ?_⟩
  have := Int.mul_le_mul h2 h2 h1 (by decide)
  omega

set_option maxHeartbeats 1000000 in
set_option maxRecDepth 100000 in
theorem c_X4_draw (l : Launch) {w : mW} (p q : Int) (hz : 0 ≤ p ∧ p ≤ 9999) (hk : 0 ≤ q ∧ q ≤ 1000) : Cp l yX4_draw cX4_draw 4 (some .int) 0 [vi p, vi q] w (fun z => z = drw p q) := by
  refine Cp.of (ml := [some (vi p), some (vi q), none, none]) kyX4_draw rfl (Nat.le_of_ble_eq_true rfl) rfl ?_
  intro t n C hQ
  have hB := drw_bd hz hk
  refine x_ldc2 C dX4_draw_0 gk_kl_X4_255 (z := 7919) rfl ⟨by decide, by decide⟩ ?_
  refine x_iload_n C dX4_draw_3 rfl ?_
  refine x_i2l C dX4_draw_4 ?_
  refine x_lmul C dX4_draw_5 (by unfold lR; omega) ?_
  refine x_ldc2 C dX4_draw_6 gk_kl_X4_257 (z := 6151) rfl ⟨by decide, by decide⟩ ?_
  refine x_iload_n C dX4_draw_9 rfl ?_
  refine x_i2l C dX4_draw_10 ?_
  refine x_lmul C dX4_draw_11 (by unfold lR; omega) ?_
  refine x_ladd C dX4_draw_12 (by unfold lR; omega) ?_
  refine x_lconst1 C dX4_draw_13 ?_
  refine x_ladd C dX4_draw_14 (by unfold lR; omega) ?_
  refine x_lstore_n C dX4_draw_15 (by decide) rfl ?_
  refine x_lload_n C dX4_draw_16 rfl ?_
  refine x_lload_n C dX4_draw_17 rfl ?_
  refine x_lmul C dX4_draw_18 (by unfold lR; omega) ?_
  refine x_ldc2 C dX4_draw_19 gk_kl_X4_259 (z := 65521) rfl ⟨by decide, by decide⟩ ?_
  refine x_lrem C dX4_draw_22 (by omega) (by omega) ?_
  refine x_l2i C dX4_draw_23 (by have h1 := Int.emod_nonneg ((7919 * p + 6151 * q + 1) * (7919 * p + 6151 * q + 1)) (show (65521 : Int) ≠ 0 by decide); have h2 := Int.emod_lt_of_pos ((7919 * p + 6151 * q + 1) * (7919 * p + 6151 * q + 1)) (show (0 : Int) < 65521 by decide); unfold iR; omega) ?_
  refine x_iret C hQ dX4_draw_24 (Nat.le_refl _) (Nat.le_refl _) ?_
  exact ⟨rfl, rfl, _, rfl, rfl⟩

set_option maxHeartbeats 1000000 in
set_option maxRecDepth 100000 in
theorem c_X4_rowOf (l : Launch) {w : mW} {h : Nat} {D : mD} (hX : isX w h D) (p : Int) : Cp l yX4_rowOf cX4_rowOf 3 (some .int) 2 [vr h, vi p] w (fun z => z = rowP D.F p) := by
  refine Cp.of (ml := [some (vr h), some (vi p), none]) kyX4_rowOf rfl (Nat.le_of_ble_eq_true rfl) rfl ?_
  intro t n C hQ
  obtain ⟨hW, a, b, ac, hab, x0, hT, hF, hU, hK, hA, hB, hR, hZ⟩ := hX
  have hfA : frR w w h (h + 115) := frR.rf
  obtain ⟨j1, j2, j3, j4, j5, j6, hs⟩ := id hF
  obtain ⟨k1, k2, k3, k4, k5, k6, k7, hc⟩ := id hA
  have u0 := hU.o0
  have k0 := hK.o0
  obtain ⟨t1, t2, ht⟩ := id hT
  obtain ⟨_, _, _, _, _, _, _, _, _, _, _, _, _, hr7⟩ := id hR
  obtain ⟨_, _, _, _, _, _, _, _, _, _, hr8⟩ := id hZ
  have hlen := isSh.len hF
  have hlS := isSc.len hA
  refine x_aload_n C dX4_rowOf_0 rfl ?_
  refine x_get C dX4_rowOf_1 kfX4_38 (x0) rfl ?_
  refine x_aload_n C dX4_rowOf_4 rfl ?_
  refine x_get C dX4_rowOf_5 kfX4_19 (x0) rfl ?_
  refine x_iload_n C dX4_rowOf_8 rfl ?_
  refine y_p1 C dX4_rowOf_9 kyX2_holderOf knX2_holderOf kmX4_265 hs.o (c_X2_holderOf l hF p) (by decide) (Nat.zero_le _) (Nat.zero_le _) (Nat.le_of_ble_eq_true rfl) (fun z9 q9 => ?_)
  refine y_p1 C dX4_rowOf_12 kyX1_itemOf knX1_itemOf kmX4_268 hc.o (c_X1_itemOf l hA z9) (by decide) (Nat.zero_le _) (Nat.zero_le _) (Nat.le_of_ble_eq_true rfl) (fun z12 q12 => ?_)
  refine s_ist3_2 C dX4_rowOf_15 rfl ?_
  have e12 : z12 = itmP D.F p := by rw [q12, q9]; rfl
  have hi12 : 0 ≤ z12 → z12 < (scr D.F).1.length := by
    intro h9
    rw [q12] at h9
    obtain ⟨x, g1, g2, g3⟩ := fIdx_find _ _ (fun q : mP => q.1) [] h9
    rw [q12]; exact g2
  refine x_iload_n C dX4_rowOf_16 rfl ?_
  refine x_if_ge (tgt := 32) C dX4_rowOf_17 (by decide) (fun c17 => ?_) (fun c17 => ?_)
  · refine x_aload_n C dX4_rowOf_32 rfl ?_
    refine x_get C dX4_rowOf_33 kfX4_38 (x0) rfl ?_
    refine x_get C dX4_rowOf_36 kfX4_271 hc.o rfl ?_
    refine x_iload_n C dX4_rowOf_39 rfl ?_
    refine x_iald C dX4_rowOf_40 hc.a3 (by omega) (by rw [hc.l3]; omega) ?_
    refine x_iret C hQ dX4_rowOf_41 (Nat.le_refl _) (Nat.le_refl _) ?_
    exact ⟨rfl, rfl, _, rfl, by rw [rowP, if_neg (by omega), ← e12, gd_app_l (by rw [List.length_map]; omega)]⟩
  · refine x_aload_n C dX4_rowOf_20 rfl ?_
    refine x_get C dX4_rowOf_21 kfX4_38 (x0) rfl ?_
    refine x_get C dX4_rowOf_24 kfX4_252 hc.o rfl ?_
    refine x_iconst C dX4_rowOf_27 ⟨by decide, by decide⟩ ?_
    refine x_isub C dX4_rowOf_28 (by first | (unfold iR; omega) | exact ⟨by omega, by omega⟩) ?_
    refine x_goto (tgt := 41) C dX4_rowOf_29 (by decide) ?_
    refine x_iret C hQ dX4_rowOf_41 (Nat.le_refl _) (Nat.le_refl _) ?_
    exact ⟨rfl, rfl, _, rfl, by rw [rowP, if_pos (by omega)]⟩

set_option maxHeartbeats 1000000 in
set_option maxRecDepth 100000 in
theorem c_X4_columnOf (l : Launch) {w : mW} {h : Nat} {D : mD} (hX : isX w h D) (p : Int) : Cp l yX4_columnOf cX4_columnOf 3 (some .int) 2 [vr h, vi p] w (fun z => z = colP D.F p) := by
  refine Cp.of (ml := [some (vr h), some (vi p), none]) kyX4_columnOf rfl (Nat.le_of_ble_eq_true rfl) rfl ?_
  intro t n C hQ
  obtain ⟨hW, a, b, ac, hab, x0, hT, hF, hU, hK, hA, hB, hR, hZ⟩ := hX
  have hfA : frR w w h (h + 115) := frR.rf
  obtain ⟨j1, j2, j3, j4, j5, j6, hs⟩ := id hF
  obtain ⟨k1, k2, k3, k4, k5, k6, k7, hc⟩ := id hA
  have u0 := hU.o0
  have k0 := hK.o0
  obtain ⟨t1, t2, ht⟩ := id hT
  obtain ⟨_, _, _, _, _, _, _, _, _, _, _, _, _, hr7⟩ := id hR
  obtain ⟨_, _, _, _, _, _, _, _, _, _, hr8⟩ := id hZ
  have hlen := isSh.len hF
  have hlS := isSc.len hA
  refine x_aload_n C dX4_columnOf_0 rfl ?_
  refine x_get C dX4_columnOf_1 kfX4_38 (x0) rfl ?_
  refine x_aload_n C dX4_columnOf_4 rfl ?_
  refine x_get C dX4_columnOf_5 kfX4_19 (x0) rfl ?_
  refine x_iload_n C dX4_columnOf_8 rfl ?_
  refine y_p1 C dX4_columnOf_9 kyX2_holderOf knX2_holderOf kmX4_265 hs.o (c_X2_holderOf l hF p) (by decide) (Nat.zero_le _) (Nat.zero_le _) (Nat.le_of_ble_eq_true rfl) (fun z9 q9 => ?_)
  refine y_p1 C dX4_columnOf_12 kyX1_itemOf knX1_itemOf kmX4_268 hc.o (c_X1_itemOf l hA z9) (by decide) (Nat.zero_le _) (Nat.zero_le _) (Nat.le_of_ble_eq_true rfl) (fun z12 q12 => ?_)
  refine s_ist3_2 C dX4_columnOf_15 rfl ?_
  have e12 : z12 = itmP D.F p := by rw [q12, q9]; rfl
  have hi12 : 0 ≤ z12 → z12 < (scr D.F).1.length := by
    intro h9
    rw [q12] at h9
    obtain ⟨x, g1, g2, g3⟩ := fIdx_find _ _ (fun q : mP => q.1) [] h9
    rw [q12]; exact g2
  refine x_iload_n C dX4_columnOf_16 rfl ?_
  refine x_if_ge (tgt := 30) C dX4_columnOf_17 (by decide) (fun c17 => ?_) (fun c17 => ?_)
  · refine x_aload_n C dX4_columnOf_30 rfl ?_
    refine x_get C dX4_columnOf_31 kfX4_38 (x0) rfl ?_
    refine x_get C dX4_columnOf_34 kfX4_277 hc.o rfl ?_
    refine x_iload_n C dX4_columnOf_37 rfl ?_
    refine x_iald C dX4_columnOf_38 hc.a4 (by omega) (by rw [hc.l4]; omega) ?_
    refine x_iret C hQ dX4_columnOf_39 (Nat.le_refl _) (Nat.le_refl _) ?_
    exact ⟨rfl, rfl, _, rfl, by rw [colP, if_neg (by omega), ← e12, gd_app_l (by rw [List.length_map]; omega)]⟩
  · refine x_aload_n C dX4_columnOf_20 rfl ?_
    refine x_get C dX4_columnOf_21 kfX4_38 (x0) rfl ?_
    refine x_get C dX4_columnOf_24 kfX4_274 hc.o rfl ?_
    refine x_goto (tgt := 39) C dX4_columnOf_27 (by decide) ?_
    refine x_iret C hQ dX4_columnOf_39 (Nat.le_refl _) (Nat.le_refl _) ?_
    exact ⟨rfl, rfl, _, rfl, by rw [colP, if_pos (by omega)]⟩

set_option maxHeartbeats 1000000 in
set_option maxRecDepth 100000 in
theorem c_X4_acrossTo (l : Launch) {w : mW} {h : Nat} {D : mD} (hX : isX w h D) (p q : Int) : Cp l yX4_acrossTo cX4_acrossTo 3 (some .int) 1 [vr h, vi p, vi q] w (fun z => z = acrP D.F p q) := by
  refine Cp.of (ml := [some (vr h), some (vi p), some (vi q)]) kyX4_acrossTo rfl (Nat.le_of_ble_eq_true rfl) rfl ?_
  intro t n C hQ
  obtain ⟨hW, a, b, ac, hab, x0, hT, hF, hU, hK, hA, hB, hR, hZ⟩ := hX
  have hfA : frR w w h (h + 115) := frR.rf
  obtain ⟨j1, j2, j3, j4, j5, j6, hs⟩ := id hF
  obtain ⟨k1, k2, k3, k4, k5, k6, k7, hc⟩ := id hA
  have u0 := hU.o0
  have k0 := hK.o0
  obtain ⟨t1, t2, ht⟩ := id hT
  obtain ⟨_, _, _, _, _, _, _, _, _, _, _, _, _, hr7⟩ := id hR
  obtain ⟨_, _, _, _, _, _, _, _, _, _, hr8⟩ := id hZ
  have hlen := isSh.len hF
  have hlS := isSc.len hA
  refine x_aload_n C dX4_acrossTo_0 rfl ?_
  refine x_get C dX4_acrossTo_1 kfX4_38 (x0) rfl ?_
  refine x_iload_n C dX4_acrossTo_4 rfl ?_
  refine y_p1 C dX4_acrossTo_5 kyX1_hasRow knX1_hasRow kmX4_198 hc.o (c_X1_hasRow l hc p) (by decide) (Nat.zero_le _) (Nat.zero_le _) (Nat.le_of_ble_eq_true rfl) (fun z5 q5 => ?_)
  refine x_if_eq (tgt := 30) C dX4_acrossTo_8 (by decide) (fun c8 => ?_) (fun c8 => ?_)
  · refine x_bipush C dX4_acrossTo_30 ⟨by decide, by decide⟩ ?_
    refine x_iret C hQ dX4_acrossTo_32 (Nat.le_refl _) (Nat.le_refl _) ?_
    exact ⟨rfl, rfl, _, rfl, by rw [acrP, if_neg (by omega)]⟩
  · refine x_aload_n C dX4_acrossTo_11 rfl ?_
    refine x_get C dX4_acrossTo_12 kfX4_38 (x0) rfl ?_
    refine x_iload_n C dX4_acrossTo_15 rfl ?_
    refine x_iload_n C dX4_acrossTo_16 rfl ?_
    refine x_aload_n C dX4_acrossTo_17 rfl ?_
    refine x_get C dX4_acrossTo_18 kfX4_19 (x0) rfl ?_
    refine x_get C dX4_acrossTo_21 kfX4_84 hs.o rfl ?_
    refine y_p3 C dX4_acrossTo_24 kyX1_placeAt knX1_placeAt kmX4_204 hc.o (c_X1_placeAt l hA p q _ hW.2.1.bd) (by decide) (Nat.zero_le _) (Nat.zero_le _) (Nat.le_of_ble_eq_true rfl) (fun z24 q24 => ?_)
    refine x_goto (tgt := 32) C dX4_acrossTo_27 (by decide) ?_
    refine x_iret C hQ dX4_acrossTo_32 (Nat.le_refl _) (Nat.le_refl _) ?_
    exact ⟨rfl, rfl, _, rfl, by rw [q24, acrP, if_pos (by omega)]⟩

set_option maxHeartbeats 1000000 in
set_option maxRecDepth 100000 in
theorem c_X4_sign (l : Launch) {w : mW} {h : Nat} {D : mD} (hX : isX w h D) (p : Int) : Cp l yX4_sign cX4_sign 2 (some .int) 2 [vr h, vi p] w (fun z => z = q_sign D.F p) := by
  refine Cp.of (ml := [some (vr h), some (vi p)]) kyX4_sign rfl (Nat.le_of_ble_eq_true rfl) rfl ?_
  intro t n C hQ
  obtain ⟨hW, a, b, ac, hab, x0, hT, hF, hU, hK, hA, hB, hR, hZ⟩ := hX
  have hfA : frR w w h (h + 115) := frR.rf
  obtain ⟨j1, j2, j3, j4, j5, j6, hs⟩ := id hF
  obtain ⟨k1, k2, k3, k4, k5, k6, k7, hc⟩ := id hA
  have u0 := hU.o0
  have k0 := hK.o0
  obtain ⟨t1, t2, ht⟩ := id hT
  obtain ⟨_, _, _, _, _, _, _, _, _, _, _, _, _, hr7⟩ := id hR
  obtain ⟨_, _, _, _, _, _, _, _, _, _, hr8⟩ := id hZ
  have hlen := isSh.len hF
  have hlS := isSc.len hA
  refine x_aload_n C dX4_sign_0 rfl ?_
  refine x_get C dX4_sign_1 kfX4_19 (x0) rfl ?_
  refine x_iload_n C dX4_sign_4 rfl ?_
  refine y_p1 C dX4_sign_5 kyX2_hasPlace knX2_hasPlace kmX4_87 hs.o (c_X2_hasPlace l hs p) (by decide) (Nat.zero_le _) (Nat.zero_le _) (Nat.le_of_ble_eq_true rfl) (fun z5 q5 => ?_)
  refine x_if_ne (tgt := 13) C dX4_sign_8 (by decide) (fun c8 => ?_) (fun c8 => ?_)
  · refine x_aload_n C dX4_sign_13 rfl ?_
    refine x_get C dX4_sign_14 kfX4_19 (x0) rfl ?_
    refine x_iload_n C dX4_sign_17 rfl ?_
    refine y_p1 C dX4_sign_18 kyX2_signAt knX2_signAt kmX4_90 hs.o (c_X2_signAt l hF p) (by decide) (Nat.zero_le _) (Nat.zero_le _) (Nat.le_of_ble_eq_true rfl) (fun z18 q18 => ?_)
    refine x_iret C hQ dX4_sign_21 (Nat.le_refl _) (Nat.le_refl _) ?_
    exact ⟨rfl, rfl, _, rfl, by unfold q_sign; (repeat' split) <;> omega⟩
  · refine x_iconst C dX4_sign_11 ⟨by decide, by decide⟩ ?_
    refine x_iret C hQ dX4_sign_12 (Nat.le_refl _) (Nat.le_refl _) ?_
    exact ⟨rfl, rfl, _, rfl, by unfold q_sign; (repeat' split) <;> omega⟩

set_option maxHeartbeats 1000000 in
set_option maxRecDepth 100000 in
theorem c_X4_fold (l : Launch) {w : mW} {h : Nat} {D : mD} (hX : isX w h D) (p q : Int) : Cp l yX4_fold cX4_fold 3 (some .int) 1 [vr h, vi p, vi q] w (fun z => z = q_fold D.F p q) := by
  refine Cp.of (ml := [some (vr h), some (vi p), some (vi q)]) kyX4_fold rfl (Nat.le_of_ble_eq_true rfl) rfl ?_
  intro t n C hQ
  obtain ⟨hW, a, b, ac, hab, x0, hT, hF, hU, hK, hA, hB, hR, hZ⟩ := hX
  have hfA : frR w w h (h + 115) := frR.rf
  obtain ⟨j1, j2, j3, j4, j5, j6, hs⟩ := id hF
  obtain ⟨k1, k2, k3, k4, k5, k6, k7, hc⟩ := id hA
  have u0 := hU.o0
  have k0 := hK.o0
  obtain ⟨t1, t2, ht⟩ := id hT
  obtain ⟨_, _, _, _, _, _, _, _, _, _, _, _, _, hr7⟩ := id hR
  obtain ⟨_, _, _, _, _, _, _, _, _, _, hr8⟩ := id hZ
  have hlen := isSh.len hF
  have hlS := isSc.len hA
  refine x_aload_n C dX4_fold_0 rfl ?_
  refine x_get C dX4_fold_1 kfX4_19 (x0) rfl ?_
  refine x_iload_n C dX4_fold_4 rfl ?_
  refine y_p1 C dX4_fold_5 kyX2_hasFold knX2_hasFold kmX4_94 hs.o (c_X2_hasFold l hs p) (by decide) (Nat.zero_le _) (Nat.zero_le _) (Nat.le_of_ble_eq_true rfl) (fun z5 q5 => ?_)
  refine x_if_ne (tgt := 13) C dX4_fold_8 (by decide) (fun c8 => ?_) (fun c8 => ?_)
  · refine x_iload_n C dX4_fold_13 rfl ?_
    refine sw_X4_fold_14 C (fun c14 => ?_) (fun c14 => ?_) (fun c14 => ?_) (fun c14 => ?_)
    · refine x_aload_n C dX4_fold_40 rfl ?_
      refine x_get C dX4_fold_41 kfX4_19 (x0) rfl ?_
      refine x_get C dX4_fold_44 kfX4_97 hs.o rfl ?_
      refine x_iload_n C dX4_fold_47 rfl ?_
      refine x_iald C dX4_fold_48 hs.a2 (by omega) (by rw [hs.l2]; omega) ?_
      refine x_iret C hQ dX4_fold_49 (Nat.le_refl _) (Nat.le_refl _) ?_
      have e := gd_app_l (xs := D.F.1.2.1.map (fun q => q.1)) (ys := j2) (i := p.toNat) (by rw [List.length_map]; omega)
      exact ⟨rfl, rfl, _, rfl, by unfold q_fold; (repeat' split) <;> omega⟩
    · refine x_aload_n C dX4_fold_50 rfl ?_
      refine x_get C dX4_fold_51 kfX4_19 (x0) rfl ?_
      refine x_get C dX4_fold_54 kfX4_101 hs.o rfl ?_
      refine x_iload_n C dX4_fold_57 rfl ?_
      refine x_iald C dX4_fold_58 hs.a3 (by omega) (by rw [hs.l3]; omega) ?_
      refine x_iret C hQ dX4_fold_59 (Nat.le_refl _) (Nat.le_refl _) ?_
      have e := gd_app_l (xs := D.F.1.2.1.map (fun q => q.2.1)) (ys := j3) (i := p.toNat) (by rw [List.length_map]; omega)
      exact ⟨rfl, rfl, _, rfl, by unfold q_fold; (repeat' split) <;> omega⟩
    · refine x_aload_n C dX4_fold_60 rfl ?_
      refine x_get C dX4_fold_61 kfX4_19 (x0) rfl ?_
      refine x_get C dX4_fold_64 kfX4_104 hs.o rfl ?_
      refine x_iload_n C dX4_fold_67 rfl ?_
      refine x_zaldB C dX4_fold_68 hs.a4 (by omega) (by rw [hs.l4]; omega) (fun b68 => ?_)
      refine x_if_eq (tgt := 76) C dX4_fold_69 (by decide) (fun c69 => ?_) (fun c69 => ?_)
      · refine x_iconst C dX4_fold_76 ⟨by decide, by decide⟩ ?_
        refine x_iret C hQ dX4_fold_77 (Nat.le_refl _) (Nat.le_refl _) ?_
        have e := gd_app_l (xs := D.F.1.2.1.map (fun q => q.2.2)) (ys := j4) (i := p.toNat) (by rw [List.length_map]; omega)
        exact ⟨rfl, rfl, _, rfl, by unfold q_fold; (repeat' split) <;> omega⟩
      · refine x_iconst C dX4_fold_72 ⟨by decide, by decide⟩ ?_
        refine x_goto (tgt := 77) C dX4_fold_73 (by decide) ?_
        refine x_iret C hQ dX4_fold_77 (Nat.le_refl _) (Nat.le_refl _) ?_
        have e := gd_app_l (xs := D.F.1.2.1.map (fun q => q.2.2)) (ys := j4) (i := p.toNat) (by rw [List.length_map]; omega)
        exact ⟨rfl, rfl, _, rfl, by unfold q_fold; (repeat' split) <;> omega⟩
    · refine x_iconst C dX4_fold_78 ⟨by decide, by decide⟩ ?_
      refine x_iret C hQ dX4_fold_79 (Nat.le_refl _) (Nat.le_refl _) ?_
      exact ⟨rfl, rfl, _, rfl, by unfold q_fold; (repeat' split) <;> omega⟩
  · refine x_iconst C dX4_fold_11 ⟨by decide, by decide⟩ ?_
    refine x_iret C hQ dX4_fold_12 (Nat.le_refl _) (Nat.le_refl _) ?_
    exact ⟨rfl, rfl, _, rfl, by unfold q_fold; (repeat' split) <;> omega⟩

set_option maxHeartbeats 1000000 in
set_option maxRecDepth 100000 in
theorem c_X4_hint (l : Launch) {w : mW} {h : Nat} {D : mD} (hX : isX w h D) (p q : Int) : Cp l yX4_hint cX4_hint 3 (some .int) 3 [vr h, vi p, vi q] w (fun z => z = q_hint D.F p q) := by
  refine Cp.of (ml := [some (vr h), some (vi p), some (vi q)]) kyX4_hint rfl (Nat.le_of_ble_eq_true rfl) rfl ?_
  intro t n C hQ
  obtain ⟨hW, a, b, ac, hab, x0, hT, hF, hU, hK, hA, hB, hR, hZ⟩ := hX
  have hfA : frR w w h (h + 115) := frR.rf
  obtain ⟨j1, j2, j3, j4, j5, j6, hs⟩ := id hF
  obtain ⟨k1, k2, k3, k4, k5, k6, k7, hc⟩ := id hA
  have u0 := hU.o0
  have k0 := hK.o0
  obtain ⟨t1, t2, ht⟩ := id hT
  obtain ⟨_, _, _, _, _, _, _, _, _, _, _, _, _, hr7⟩ := id hR
  obtain ⟨_, _, _, _, _, _, _, _, _, _, hr8⟩ := id hZ
  have hlen := isSh.len hF
  have hlS := isSc.len hA
  refine x_aload_n C dX4_hint_0 rfl ?_
  refine x_get C dX4_hint_1 kfX4_19 (x0) rfl ?_
  refine x_iload_n C dX4_hint_4 rfl ?_
  refine y_p1 C dX4_hint_5 kyX2_hasHint knX2_hasHint kmX4_108 hs.o (c_X2_hasHint l hs p) (by decide) (Nat.zero_le _) (Nat.zero_le _) (Nat.le_of_ble_eq_true rfl) (fun z5 q5 => ?_)
  refine x_if_ne (tgt := 13) C dX4_hint_8 (by decide) (fun c8 => ?_) (fun c8 => ?_)
  · refine x_iload_n C dX4_hint_13 rfl ?_
    refine sw_X4_hint_14 C (fun c14 => ?_) (fun c14 => ?_) (fun c14 => ?_) (fun c14 => ?_)
    · refine x_aload_n C dX4_hint_40 rfl ?_
      refine x_get C dX4_hint_41 kfX4_19 (x0) rfl ?_
      refine x_get C dX4_hint_44 kfX4_111 hs.o rfl ?_
      refine x_iload_n C dX4_hint_47 rfl ?_
      refine x_iald C dX4_hint_48 hs.a5 (by omega) (by rw [hs.l5]; omega) ?_
      refine x_iret C hQ dX4_hint_49 (Nat.le_refl _) (Nat.le_refl _) ?_
      have e := gd_app_l (xs := D.F.1.2.2.map (fun q => q.1)) (ys := j5) (i := p.toNat) (by rw [List.length_map]; omega)
      exact ⟨rfl, rfl, _, rfl, by unfold q_hint; (repeat' split) <;> omega⟩
    · refine x_aload_n C dX4_hint_50 rfl ?_
      refine x_get C dX4_hint_51 kfX4_19 (x0) rfl ?_
      refine x_get C dX4_hint_54 kfX4_114 hs.o rfl ?_
      refine x_iload_n C dX4_hint_57 rfl ?_
      refine x_iald C dX4_hint_58 hs.a6 (by omega) (by rw [hs.l6]; omega) ?_
      refine x_iret C hQ dX4_hint_59 (Nat.le_refl _) (Nat.le_refl _) ?_
      have e := gd_app_l (xs := D.F.1.2.2.map (fun q => q.2)) (ys := j6) (i := p.toNat) (by rw [List.length_map]; omega)
      exact ⟨rfl, rfl, _, rfl, by unfold q_hint; (repeat' split) <;> omega⟩
    · refine x_aload_n C dX4_hint_60 rfl ?_
      refine x_get C dX4_hint_61 kfX4_19 (x0) rfl ?_
      refine x_aload_n C dX4_hint_64 rfl ?_
      refine x_get C dX4_hint_65 kfX4_19 (x0) rfl ?_
      refine x_get C dX4_hint_68 kfX4_111 hs.o rfl ?_
      refine x_iload_n C dX4_hint_71 rfl ?_
      refine x_iald C dX4_hint_72 hs.a5 (by omega) (by rw [hs.l5]; omega) ?_
      refine y_p1 C dX4_hint_73 kyX2_isShown knX2_isShown kmX4_117 hs.o (c_X2_isShown l hF _) (by decide) (Nat.zero_le _) (Nat.zero_le _) (Nat.le_of_ble_eq_true rfl) (fun z73 q73 => ?_)
      rw [gd_app_l (by rw [List.length_map]; omega)] at q73
      refine x_if_eq (tgt := 83) C dX4_hint_76 (by decide) (fun c76 => ?_) (fun c76 => ?_)
      · refine x_iconst C dX4_hint_83 ⟨by decide, by decide⟩ ?_
        refine x_iret C hQ dX4_hint_84 (Nat.le_refl _) (Nat.le_refl _) ?_
        exact ⟨rfl, rfl, _, rfl, by unfold q_hint; (repeat' split) <;> omega⟩
      · refine x_iconst C dX4_hint_79 ⟨by decide, by decide⟩ ?_
        refine x_goto (tgt := 84) C dX4_hint_80 (by decide) ?_
        refine x_iret C hQ dX4_hint_84 (Nat.le_refl _) (Nat.le_refl _) ?_
        exact ⟨rfl, rfl, _, rfl, by unfold q_hint; (repeat' split) <;> omega⟩
    · refine x_iconst C dX4_hint_85 ⟨by decide, by decide⟩ ?_
      refine x_iret C hQ dX4_hint_86 (Nat.le_refl _) (Nat.le_refl _) ?_
      exact ⟨rfl, rfl, _, rfl, by unfold q_hint; (repeat' split) <;> omega⟩
  · refine x_iconst C dX4_hint_11 ⟨by decide, by decide⟩ ?_
    refine x_iret C hQ dX4_hint_12 (Nat.le_refl _) (Nat.le_refl _) ?_
    exact ⟨rfl, rfl, _, rfl, by unfold q_hint; (repeat' split) <;> omega⟩

set_option maxHeartbeats 1000000 in
set_option maxRecDepth 100000 in
theorem c_X4_stands (l : Launch) {w : mW} {h : Nat} {D : mD} (hX : isX w h D) (p q : Int) : Cp l yX4_stands cX4_stands 3 (some .int) 3 [vr h, vi p, vi q] w (fun z => z = q_stands D.F p q) := by
  refine Cp.of (ml := [some (vr h), some (vi p), some (vi q)]) kyX4_stands rfl (Nat.le_of_ble_eq_true rfl) rfl ?_
  intro t n C hQ
  have hX2 := hX
  obtain ⟨hW, a, b, ac, hab, x0, hT, hF, hU, hK, hA, hB, hR, hZ⟩ := hX
  have hfA : frR w w h (h + 115) := frR.rf
  obtain ⟨j1, j2, j3, j4, j5, j6, hs⟩ := id hF
  obtain ⟨k1, k2, k3, k4, k5, k6, k7, hc⟩ := id hA
  have u0 := hU.o0
  have k0 := hK.o0
  obtain ⟨t1, t2, ht⟩ := id hT
  obtain ⟨_, _, _, _, _, _, _, _, _, _, _, _, _, hr7⟩ := id hR
  obtain ⟨_, _, _, _, _, _, _, _, _, _, hr8⟩ := id hZ
  have hlen := isSh.len hF
  have hlS := isSc.len hA
  refine x_aload_n C dX4_stands_0 rfl ?_
  refine x_get C dX4_stands_1 kfX4_19 (x0) rfl ?_
  refine x_iload_n C dX4_stands_4 rfl ?_
  refine y_p1 C dX4_stands_5 kyX2_hasPlace knX2_hasPlace kmX4_87 hs.o (c_X2_hasPlace l hs p) (by decide) (Nat.zero_le _) (Nat.zero_le _) (Nat.le_of_ble_eq_true rfl) (fun z5 q5 => ?_)
  refine x_if_ne (tgt := 13) C dX4_stands_8 (by decide) (fun c8 => ?_) (fun c8 => ?_)
  · refine x_iload_n C dX4_stands_13 rfl ?_
    refine sw_X4_stands_14 C (fun c14 => ?_) (fun c14 => ?_) (fun c14 => ?_) (fun c14 => ?_)
    · refine x_aload_n C dX4_stands_40 rfl ?_
      refine x_iload_n C dX4_stands_41 rfl ?_
      refine y_p1 C dX4_stands_42 kyX4_rowOf knX4_rowOf kmX4_192 (x0) (c_X4_rowOf l hX2 p) (by decide) (Nat.zero_le _) (Nat.zero_le _) (Nat.le_of_ble_eq_true rfl) (fun z42 q42 => ?_)
      refine x_iret C hQ dX4_stands_45 (Nat.le_refl _) (Nat.le_refl _) ?_
      exact ⟨rfl, rfl, _, rfl, by unfold q_stands; (repeat' split) <;> omega⟩
    · refine x_aload_n C dX4_stands_46 rfl ?_
      refine x_iload_n C dX4_stands_47 rfl ?_
      refine y_p1 C dX4_stands_48 kyX4_columnOf knX4_columnOf kmX4_195 (x0) (c_X4_columnOf l hX2 p) (by decide) (Nat.zero_le _) (Nat.zero_le _) (Nat.le_of_ble_eq_true rfl) (fun z48 q48 => ?_)
      refine x_iret C hQ dX4_stands_51 (Nat.le_refl _) (Nat.le_refl _) ?_
      exact ⟨rfl, rfl, _, rfl, by unfold q_stands; (repeat' split) <;> omega⟩
    · refine x_aload_n C dX4_stands_52 rfl ?_
      refine x_get C dX4_stands_53 kfX4_19 (x0) rfl ?_
      refine x_iload_n C dX4_stands_56 rfl ?_
      refine y_p1 C dX4_stands_57 kyX2_isShown knX2_isShown kmX4_117 hs.o (c_X2_isShown l hF p) (by decide) (Nat.zero_le _) (Nat.zero_le _) (Nat.le_of_ble_eq_true rfl) (fun z57 q57 => ?_)
      refine x_if_eq (tgt := 67) C dX4_stands_60 (by decide) (fun c60 => ?_) (fun c60 => ?_)
      · refine x_iconst C dX4_stands_67 ⟨by decide, by decide⟩ ?_
        refine x_iret C hQ dX4_stands_68 (Nat.le_refl _) (Nat.le_refl _) ?_
        exact ⟨rfl, rfl, _, rfl, by unfold q_stands; (repeat' split) <;> omega⟩
      · refine x_iconst C dX4_stands_63 ⟨by decide, by decide⟩ ?_
        refine x_goto (tgt := 68) C dX4_stands_64 (by decide) ?_
        refine x_iret C hQ dX4_stands_68 (Nat.le_refl _) (Nat.le_refl _) ?_
        exact ⟨rfl, rfl, _, rfl, by unfold q_stands; (repeat' split) <;> omega⟩
    · refine x_iconst C dX4_stands_69 ⟨by decide, by decide⟩ ?_
      refine x_iret C hQ dX4_stands_70 (Nat.le_refl _) (Nat.le_refl _) ?_
      exact ⟨rfl, rfl, _, rfl, by unfold q_stands; (repeat' split) <;> omega⟩
  · refine x_iconst C dX4_stands_11 ⟨by decide, by decide⟩ ?_
    refine x_iret C hQ dX4_stands_12 (Nat.le_refl _) (Nat.le_refl _) ?_
    exact ⟨rfl, rfl, _, rfl, by unfold q_stands; (repeat' split) <;> omega⟩

set_option maxHeartbeats 1000000 in
set_option maxRecDepth 100000 in
theorem c_X4_place (l : Launch) {w : mW} {h : Nat} {D : mD} (hX : isX w h D) (p q : Int) : Cp l yX4_place cX4_place 3 (some .int) 1 [vr h, vi p, vi q] w (fun z => z = q_place D.F p q) := by
  refine Cp.of (ml := [some (vr h), some (vi p), some (vi q)]) kyX4_place rfl (Nat.le_of_ble_eq_true rfl) rfl ?_
  intro t n C hQ
  obtain ⟨hW, a, b, ac, hab, x0, hT, hF, hU, hK, hA, hB, hR, hZ⟩ := hX
  have hfA : frR w w h (h + 115) := frR.rf
  obtain ⟨j1, j2, j3, j4, j5, j6, hs⟩ := id hF
  obtain ⟨k1, k2, k3, k4, k5, k6, k7, hc⟩ := id hA
  have u0 := hU.o0
  have k0 := hK.o0
  obtain ⟨t1, t2, ht⟩ := id hT
  obtain ⟨_, _, _, _, _, _, _, _, _, _, _, _, _, hr7⟩ := id hR
  obtain ⟨_, _, _, _, _, _, _, _, _, _, hr8⟩ := id hZ
  have hlen := isSh.len hF
  have hlS := isSc.len hA
  refine x_aload_n C dX4_place_0 rfl ?_
  refine x_get C dX4_place_1 kfX4_38 (x0) rfl ?_
  refine x_iload_n C dX4_place_4 rfl ?_
  refine y_p1 C dX4_place_5 kyX1_hasRow knX1_hasRow kmX4_198 hc.o (c_X1_hasRow l hc p) (by decide) (Nat.zero_le _) (Nat.zero_le _) (Nat.le_of_ble_eq_true rfl) (fun z5 q5 => ?_)
  refine x_if_eq (tgt := 18) C dX4_place_8 (by decide) (fun c8 => ?_) (fun c8 => ?_)
  · refine x_iconst C dX4_place_18 ⟨by decide, by decide⟩ ?_
    refine x_iret C hQ dX4_place_19 (Nat.le_refl _) (Nat.le_refl _) ?_
    exact ⟨rfl, rfl, _, rfl, by unfold q_place; (repeat' split) <;> omega⟩
  · refine x_iload_n C dX4_place_11 rfl ?_
    refine z_p1 C dX4_place_12 kyX4_isColumn ksX4_isColumn kmX4_201 (c_X4_isColumn l q) (by decide) (Nat.zero_le _) (Nat.zero_le _) (Nat.le_of_ble_eq_true rfl) (fun z12 q12 => ?_)
    refine x_if_ne (tgt := 20) C dX4_place_15 (by decide) (fun c15 => ?_) (fun c15 => ?_)
    · refine x_aload_n C dX4_place_20 rfl ?_
      refine x_get C dX4_place_21 kfX4_38 (x0) rfl ?_
      refine x_iload_n C dX4_place_24 rfl ?_
      refine x_iload_n C dX4_place_25 rfl ?_
      refine x_aload_n C dX4_place_26 rfl ?_
      refine x_get C dX4_place_27 kfX4_19 (x0) rfl ?_
      refine x_get C dX4_place_30 kfX4_84 hs.o rfl ?_
      refine y_p3 C dX4_place_33 kyX1_placeAt knX1_placeAt kmX4_204 hc.o (c_X1_placeAt l hA p q _ hW.2.1.bd) (by decide) (Nat.zero_le _) (Nat.zero_le _) (Nat.le_of_ble_eq_true rfl) (fun z33 q33 => ?_)
      refine x_iret C hQ dX4_place_36 (Nat.le_refl _) (Nat.le_refl _) ?_
      exact ⟨rfl, rfl, _, rfl, by unfold q_place; (repeat' split) <;> omega⟩
    · refine x_iconst C dX4_place_18 ⟨by decide, by decide⟩ ?_
      refine x_iret C hQ dX4_place_19 (Nat.le_refl _) (Nat.le_refl _) ?_
      exact ⟨rfl, rfl, _, rfl, by unfold q_place; (repeat' split) <;> omega⟩

set_option maxHeartbeats 1000000 in
set_option maxRecDepth 100000 in
theorem c_X4_screen (l : Launch) {w : mW} {h : Nat} {D : mD} (hX : isX w h D) (p q : Int) : Cp l yX4_screen cX4_screen 3 (some .int) 1 [vr h, vi p, vi q] w (fun z => z = q_screen D.F p q) := by
  refine Cp.of (ml := [some (vr h), some (vi p), some (vi q)]) kyX4_screen rfl (Nat.le_of_ble_eq_true rfl) rfl ?_
  intro t n C hQ
  obtain ⟨hW, a, b, ac, hab, x0, hT, hF, hU, hK, hA, hB, hR, hZ⟩ := hX
  have hfA : frR w w h (h + 115) := frR.rf
  obtain ⟨j1, j2, j3, j4, j5, j6, hs⟩ := id hF
  obtain ⟨k1, k2, k3, k4, k5, k6, k7, hc⟩ := id hA
  have u0 := hU.o0
  have k0 := hK.o0
  obtain ⟨t1, t2, ht⟩ := id hT
  obtain ⟨_, _, _, _, _, _, _, _, _, _, _, _, _, hr7⟩ := id hR
  obtain ⟨_, _, _, _, _, _, _, _, _, _, hr8⟩ := id hZ
  have hlen := isSh.len hF
  have hlS := isSc.len hA
  refine x_aload_n C dX4_screen_0 rfl ?_
  refine x_get C dX4_screen_1 kfX4_38 (x0) rfl ?_
  refine x_iload_n C dX4_screen_4 rfl ?_
  refine y_p1 C dX4_screen_5 kyX1_hasRow knX1_hasRow kmX4_198 hc.o (c_X1_hasRow l hc p) (by decide) (Nat.zero_le _) (Nat.zero_le _) (Nat.le_of_ble_eq_true rfl) (fun z5 q5 => ?_)
  refine x_if_eq (tgt := 18) C dX4_screen_8 (by decide) (fun c8 => ?_) (fun c8 => ?_)
  · refine x_iconst C dX4_screen_18 ⟨by decide, by decide⟩ ?_
    refine x_iret C hQ dX4_screen_19 (Nat.le_refl _) (Nat.le_refl _) ?_
    exact ⟨rfl, rfl, _, rfl, by unfold q_screen; (repeat' split) <;> omega⟩
  · refine x_iload_n C dX4_screen_11 rfl ?_
    refine z_p1 C dX4_screen_12 kyX4_isColumn ksX4_isColumn kmX4_201 (c_X4_isColumn l q) (by decide) (Nat.zero_le _) (Nat.zero_le _) (Nat.le_of_ble_eq_true rfl) (fun z12 q12 => ?_)
    refine x_if_ne (tgt := 20) C dX4_screen_15 (by decide) (fun c15 => ?_) (fun c15 => ?_)
    · refine x_aload_n C dX4_screen_20 rfl ?_
      refine x_get C dX4_screen_21 kfX4_38 (x0) rfl ?_
      refine x_iload_n C dX4_screen_24 rfl ?_
      refine x_iload_n C dX4_screen_25 rfl ?_
      refine y_p2 C dX4_screen_26 kyX1_codeAt knX1_codeAt kmX4_208 hc.o (c_X1_codeAt l hA p q hW.2.1.bd) (by decide) (Nat.zero_le _) (Nat.zero_le _) (Nat.le_of_ble_eq_true rfl) (fun z26 q26 => ?_)
      refine x_iret C hQ dX4_screen_29 (Nat.le_refl _) (Nat.le_refl _) ?_
      exact ⟨rfl, rfl, _, rfl, by unfold q_screen; (repeat' split) <;> omega⟩
    · refine x_iconst C dX4_screen_18 ⟨by decide, by decide⟩ ?_
      refine x_iret C hQ dX4_screen_19 (Nat.le_refl _) (Nat.le_refl _) ?_
      exact ⟨rfl, rfl, _, rfl, by unfold q_screen; (repeat' split) <;> omega⟩

set_option maxHeartbeats 1000000 in
set_option maxRecDepth 100000 in
theorem c_X4_go (l : Launch) {w : mW} {h : Nat} {D : mD} (hX : isX w h D) (p q : Int) : Cp l yX4_go cX4_go 3 (some .int) 4 [vr h, vi p, vi q] w (fun z => q_go D.F p q z) := by
  refine Cp.of (ml := [some (vr h), some (vi p), some (vi q)]) kyX4_go rfl (Nat.le_of_ble_eq_true rfl) rfl ?_
  intro t n C hQ
  have hX2 := hX
  obtain ⟨hW, a, b, ac, hab, x0, hT, hF, hU, hK, hA, hB, hR, hZ⟩ := hX
  have hfA : frR w w h (h + 115) := frR.rf
  obtain ⟨j1, j2, j3, j4, j5, j6, hs⟩ := id hF
  obtain ⟨k1, k2, k3, k4, k5, k6, k7, hc⟩ := id hA
  have u0 := hU.o0
  have k0 := hK.o0
  obtain ⟨t1, t2, ht⟩ := id hT
  obtain ⟨_, _, _, _, _, _, _, _, _, _, _, _, _, hr7⟩ := id hR
  obtain ⟨_, _, _, _, _, _, _, _, _, _, hr8⟩ := id hZ
  have hlen := isSh.len hF
  have hlS := isSc.len hA
  refine x_aload_n C dX4_go_0 rfl ?_
  refine x_get C dX4_go_1 kfX4_19 (x0) rfl ?_
  refine x_iload_n C dX4_go_4 rfl ?_
  refine y_p1 C dX4_go_5 kyX2_hasPlace knX2_hasPlace kmX4_87 hs.o (c_X2_hasPlace l hs p) (by decide) (Nat.zero_le _) (Nat.zero_le _) (Nat.le_of_ble_eq_true rfl) (fun z5 q5 => ?_)
  refine x_if_ne (tgt := 13) C dX4_go_8 (by decide) (fun c8 => ?_) (fun c8 => ?_)
  · refine x_iload_n C dX4_go_13 rfl ?_
    refine sw_X4_go_14 C (fun c14 => ?_) (fun c14 => ?_) (fun c14 => ?_) (fun c14 => ?_) (fun c14 => ?_)
    · refine x_aload_n C dX4_go_44 rfl ?_
      refine x_get C dX4_go_45 kfX4_19 (x0) rfl ?_
      refine x_iload_n C dX4_go_48 rfl ?_
      refine y_p1 C dX4_go_49 kyX2_nextShown knX2_nextShown kmX4_211 hs.o (c_X2_nextShown l hF p (by omega)) (by decide) (Nat.zero_le _) (Nat.zero_le _) (Nat.le_of_ble_eq_true rfl) (fun z49 q49 => ?_)
      refine x_iret C hQ dX4_go_52 (Nat.le_refl _) (Nat.le_refl _) ?_
      exact ⟨rfl, rfl, _, rfl, fun h9 => by omega, fun h9 => ⟨fun h8 => q49, fun h8 => absurd h8 (by omega), fun h8 => absurd h8 (by omega), fun h8 => absurd h8 (by omega), fun h8 => absurd h8 (by omega)⟩⟩
    · refine x_aload_n C dX4_go_53 rfl ?_
      refine x_get C dX4_go_54 kfX4_19 (x0) rfl ?_
      refine x_iload_n C dX4_go_57 rfl ?_
      refine y_p1 C dX4_go_58 kyX2_previousShown knX2_previousShown kmX4_214 hs.o (c_X2_previousShown l hF p (by omega)) (by decide) (Nat.zero_le _) (Nat.zero_le _) (Nat.le_of_ble_eq_true rfl) (fun z58 q58 => ?_)
      refine x_iret C hQ dX4_go_61 (Nat.le_refl _) (Nat.le_refl _) ?_
      exact ⟨rfl, rfl, _, rfl, fun h9 => by omega, fun h9 => ⟨fun h8 => absurd h8 (by omega), fun h8 => q58, fun h8 => absurd h8 (by omega), fun h8 => absurd h8 (by omega), fun h8 => absurd h8 (by omega)⟩⟩
    · refine x_aload_n C dX4_go_62 rfl ?_
      refine x_aload_n C dX4_go_63 rfl ?_
      refine x_iload_n C dX4_go_64 rfl ?_
      refine y_p1 C dX4_go_65 kyX4_rowOf knX4_rowOf kmX4_192 (x0) (c_X4_rowOf l hX2 p) (by decide) (Nat.zero_le _) (Nat.zero_le _) (Nat.le_of_ble_eq_true rfl) (fun z65 q65 => ?_)
      have hrb := rowP_bd hlS (p := p)
      refine x_iconst C dX4_go_68 ⟨by decide, by decide⟩ ?_
      refine x_isub C dX4_go_69 (by first | (unfold iR; omega) | exact ⟨by omega, by omega⟩) ?_
      refine x_aload_n C dX4_go_70 rfl ?_
      refine x_iload_n C dX4_go_71 rfl ?_
      refine y_p1 C dX4_go_72 kyX4_columnOf knX4_columnOf kmX4_195 (x0) (c_X4_columnOf l hX2 p) (by decide) (Nat.zero_le _) (Nat.zero_le _) (Nat.le_of_ble_eq_true rfl) (fun z72 q72 => ?_)
      refine y_p2 C dX4_go_75 kyX4_acrossTo knX4_acrossTo kmX4_217 (x0) (c_X4_acrossTo l hX2 (z65 - 1) z72) (by decide) (Nat.zero_le _) (Nat.zero_le _) (Nat.le_of_ble_eq_true rfl) (fun z75 q75 => ?_)
      refine x_iret C hQ dX4_go_78 (Nat.le_refl _) (Nat.le_refl _) ?_
      exact ⟨rfl, rfl, _, rfl, fun h9 => by omega, fun h9 => ⟨fun h8 => absurd h8 (by omega), fun h8 => absurd h8 (by omega), fun h8 => (by rw [q75, q65, q72]), fun h8 => absurd h8 (by omega), fun h8 => absurd h8 (by omega)⟩⟩
    · refine x_aload_n C dX4_go_79 rfl ?_
      refine x_aload_n C dX4_go_80 rfl ?_
      refine x_iload_n C dX4_go_81 rfl ?_
      refine y_p1 C dX4_go_82 kyX4_rowOf knX4_rowOf kmX4_192 (x0) (c_X4_rowOf l hX2 p) (by decide) (Nat.zero_le _) (Nat.zero_le _) (Nat.le_of_ble_eq_true rfl) (fun z82 q82 => ?_)
      have hrb := rowP_bd hlS (p := p)
      refine x_iconst C dX4_go_85 ⟨by decide, by decide⟩ ?_
      refine x_iadd C dX4_go_86 (by first | (unfold iR; omega) | exact ⟨by omega, by omega⟩) ?_
      refine x_aload_n C dX4_go_87 rfl ?_
      refine x_iload_n C dX4_go_88 rfl ?_
      refine y_p1 C dX4_go_89 kyX4_columnOf knX4_columnOf kmX4_195 (x0) (c_X4_columnOf l hX2 p) (by decide) (Nat.zero_le _) (Nat.zero_le _) (Nat.le_of_ble_eq_true rfl) (fun z89 q89 => ?_)
      refine y_p2 C dX4_go_92 kyX4_acrossTo knX4_acrossTo kmX4_217 (x0) (c_X4_acrossTo l hX2 (z82 + 1) z89) (by decide) (Nat.zero_le _) (Nat.zero_le _) (Nat.le_of_ble_eq_true rfl) (fun z92 q92 => ?_)
      refine x_iret C hQ dX4_go_95 (Nat.le_refl _) (Nat.le_refl _) ?_
      exact ⟨rfl, rfl, _, rfl, fun h9 => by omega, fun h9 => ⟨fun h8 => absurd h8 (by omega), fun h8 => absurd h8 (by omega), fun h8 => absurd h8 (by omega), fun h8 => (by rw [q92, q82, q89]), fun h8 => absurd h8 (by omega)⟩⟩
    · refine x_iconst C dX4_go_96 ⟨by decide, by decide⟩ ?_
      refine x_iret C hQ dX4_go_97 (Nat.le_refl _) (Nat.le_refl _) ?_
      exact ⟨rfl, rfl, _, rfl, fun h9 => by omega, fun h9 => ⟨fun h8 => absurd h8 (by omega), fun h8 => absurd h8 (by omega), fun h8 => absurd h8 (by omega), fun h8 => absurd h8 (by omega), fun h8 => rfl⟩⟩
  · refine x_iconst C dX4_go_11 ⟨by decide, by decide⟩ ?_
    refine x_iret C hQ dX4_go_12 (Nat.le_refl _) (Nat.le_refl _) ?_
    exact ⟨rfl, rfl, _, rfl, fun h9 => rfl, fun h9 => by omega⟩

set_option maxHeartbeats 1000000 in
set_option maxRecDepth 100000 in
theorem c_X4_row (l : Launch) {w : mW} {h : Nat} {D : mD} (hX : isX w h D) (p q : Int) : Cp l yX4_row cX4_row 3 (some .int) 1 [vr h, vi p, vi q] w (fun z => z = q_row D.F p q) := by
  refine Cp.of (ml := [some (vr h), some (vi p), some (vi q)]) kyX4_row rfl (Nat.le_of_ble_eq_true rfl) rfl ?_
  intro t n C hQ
  obtain ⟨hW, a, b, ac, hab, x0, hT, hF, hU, hK, hA, hB, hR, hZ⟩ := hX
  have hfA : frR w w h (h + 115) := frR.rf
  obtain ⟨j1, j2, j3, j4, j5, j6, hs⟩ := id hF
  obtain ⟨k1, k2, k3, k4, k5, k6, k7, hc⟩ := id hA
  have u0 := hU.o0
  have k0 := hK.o0
  obtain ⟨t1, t2, ht⟩ := id hT
  obtain ⟨_, _, _, _, _, _, _, _, _, _, _, _, _, hr7⟩ := id hR
  obtain ⟨_, _, _, _, _, _, _, _, _, _, hr8⟩ := id hZ
  have hlen := isSh.len hF
  have hlS := isSc.len hA
  refine x_aload_n C dX4_row_0 rfl ?_
  refine x_get C dX4_row_1 kfX4_38 (x0) rfl ?_
  refine x_iload_n C dX4_row_4 rfl ?_
  refine y_p1 C dX4_row_5 kyX1_hasRow knX1_hasRow kmX4_198 hc.o (c_X1_hasRow l hc p) (by decide) (Nat.zero_le _) (Nat.zero_le _) (Nat.le_of_ble_eq_true rfl) (fun z5 q5 => ?_)
  refine x_if_ne (tgt := 13) C dX4_row_8 (by decide) (fun c8 => ?_) (fun c8 => ?_)
  · refine x_iload_n C dX4_row_13 rfl ?_
    refine sw_X4_row_14 C (fun c14 => ?_) (fun c14 => ?_) (fun c14 => ?_)
    · refine x_aload_n C dX4_row_40 rfl ?_
      refine x_get C dX4_row_41 kfX4_38 (x0) rfl ?_
      refine x_get C dX4_row_44 kfX4_220 hc.o rfl ?_
      refine x_iload_n C dX4_row_47 rfl ?_
      refine x_iald C dX4_row_48 hc.a6 (by omega) (by rw [hc.l6]; omega) ?_
      refine x_iret C hQ dX4_row_49 (Nat.le_refl _) (Nat.le_refl _) ?_
      have e := gd_app_l (xs := (scr D.F).2.map (fun q => q.1)) (ys := k6) (i := p.toNat) (by rw [List.length_map]; omega)
      exact ⟨rfl, rfl, _, rfl, by unfold q_row; (repeat' split) <;> omega⟩
    · refine x_aload_n C dX4_row_50 rfl ?_
      refine x_get C dX4_row_51 kfX4_38 (x0) rfl ?_
      refine x_get C dX4_row_54 kfX4_223 hc.o rfl ?_
      refine x_iload_n C dX4_row_57 rfl ?_
      refine x_zaldB C dX4_row_58 hc.a7 (by omega) (by rw [hc.l7]; omega) (fun b58 => ?_)
      refine x_if_eq (tgt := 66) C dX4_row_59 (by decide) (fun c59 => ?_) (fun c59 => ?_)
      · refine x_iconst C dX4_row_66 ⟨by decide, by decide⟩ ?_
        refine x_iret C hQ dX4_row_67 (Nat.le_refl _) (Nat.le_refl _) ?_
        have e := gd_app_l (xs := (scr D.F).2.map (fun q => q.2)) (ys := k7) (i := p.toNat) (by rw [List.length_map]; omega)
        exact ⟨rfl, rfl, _, rfl, by unfold q_row; (repeat' split) <;> omega⟩
      · refine x_iconst C dX4_row_62 ⟨by decide, by decide⟩ ?_
        refine x_goto (tgt := 67) C dX4_row_63 (by decide) ?_
        refine x_iret C hQ dX4_row_67 (Nat.le_refl _) (Nat.le_refl _) ?_
        have e := gd_app_l (xs := (scr D.F).2.map (fun q => q.2)) (ys := k7) (i := p.toNat) (by rw [List.length_map]; omega)
        exact ⟨rfl, rfl, _, rfl, by unfold q_row; (repeat' split) <;> omega⟩
    · refine x_iconst C dX4_row_68 ⟨by decide, by decide⟩ ?_
      refine x_iret C hQ dX4_row_69 (Nat.le_refl _) (Nat.le_refl _) ?_
      exact ⟨rfl, rfl, _, rfl, by unfold q_row; (repeat' split) <;> omega⟩
  · refine x_iconst C dX4_row_11 ⟨by decide, by decide⟩ ?_
    refine x_iret C hQ dX4_row_12 (Nat.le_refl _) (Nat.le_refl _) ?_
    exact ⟨rfl, rfl, _, rfl, by unfold q_row; (repeat' split) <;> omega⟩

set_option maxHeartbeats 1000000 in
set_option maxRecDepth 100000 in
theorem c_X4_count (l : Launch) {w : mW} {h : Nat} {D : mD} (hX : isX w h D) (p : Int) : Cp l yX4_count cX4_count 2 (some .int) 2 [vr h, vi p] w (fun z => z = q_count D p) := by
  refine Cp.of (ml := [some (vr h), some (vi p)]) kyX4_count rfl (Nat.le_of_ble_eq_true rfl) rfl ?_
  intro t n C hQ
  obtain ⟨hW, a, b, ac, hab, x0, hT, hF, hU, hK, hA, hB, hR, hZ⟩ := hX
  have hfA : frR w w h (h + 115) := frR.rf
  obtain ⟨j1, j2, j3, j4, j5, j6, hs⟩ := id hF
  obtain ⟨k1, k2, k3, k4, k5, k6, k7, hc⟩ := id hA
  have u0 := hU.o0
  have k0 := hK.o0
  obtain ⟨t1, t2, ht⟩ := id hT
  obtain ⟨_, _, _, _, _, _, _, _, _, _, _, _, _, hr7⟩ := id hR
  obtain ⟨_, _, _, _, _, _, _, _, _, _, hr8⟩ := id hZ
  have hlen := isSh.len hF
  have hlS := isSc.len hA
  refine x_iload_n C dX4_count_0 rfl ?_
  refine sw_X4_count_1 C (fun c1 => ?_) (fun c1 => ?_) (fun c1 => ?_) (fun c1 => ?_) (fun c1 => ?_) (fun c1 => ?_) (fun c1 => ?_) (fun c1 => ?_) (fun c1 => ?_) (fun c1 => ?_) (fun c1 => ?_) (fun c1 => ?_) (fun c1 => ?_)
  · refine x_aload_n C dX4_count_64 rfl ?_
    refine x_get C dX4_count_65 kfX4_19 (x0) rfl ?_
    refine x_get C dX4_count_68 kfX4_84 hs.o rfl ?_
    refine x_iret C hQ dX4_count_71 (Nat.le_refl _) (Nat.le_refl _) ?_
    exact ⟨rfl, rfl, _, rfl, by subst c1; rfl⟩
  · refine x_aload_n C dX4_count_72 rfl ?_
    refine x_get C dX4_count_73 kfX4_19 (x0) rfl ?_
    refine x_get C dX4_count_76 kfX4_153 hs.o rfl ?_
    refine x_iret C hQ dX4_count_79 (Nat.le_refl _) (Nat.le_refl _) ?_
    exact ⟨rfl, rfl, _, rfl, by subst c1; rfl⟩
  · refine x_aload_n C dX4_count_80 rfl ?_
    refine x_get C dX4_count_81 kfX4_19 (x0) rfl ?_
    refine x_get C dX4_count_84 kfX4_249 hs.o rfl ?_
    refine x_iret C hQ dX4_count_87 (Nat.le_refl _) (Nat.le_refl _) ?_
    exact ⟨rfl, rfl, _, rfl, by subst c1; rfl⟩
  · refine x_aload_n C dX4_count_88 rfl ?_
    refine x_get C dX4_count_89 kfX4_38 (x0) rfl ?_
    refine x_get C dX4_count_92 kfX4_252 hc.o rfl ?_
    refine x_iret C hQ dX4_count_95 (Nat.le_refl _) (Nat.le_refl _) ?_
    exact ⟨rfl, rfl, _, rfl, by subst c1; rfl⟩
  · refine x_aload_n C dX4_count_96 rfl ?_
    refine x_get C dX4_count_97 kfX4_38 (x0) rfl ?_
    refine y_p0 C dX4_count_100 kyX1_longestRow knX1_longestRow kmX4_243 hc.o (c_X1_longestRow l hA) (by decide) (Nat.zero_le _) (Nat.zero_le _) (Nat.le_of_ble_eq_true rfl) (fun z100 q100 => ?_)
    refine x_iret C hQ dX4_count_103 (Nat.le_refl _) (Nat.le_refl _) ?_
    exact ⟨rfl, rfl, _, rfl, by rw [q100]; subst c1; rfl⟩
  · refine x_aload_n C dX4_count_104 rfl ?_
    refine x_get C dX4_count_105 kfX4_19 (x0) rfl ?_
    refine x_get C dX4_count_108 kfX4_169 hs.o rfl ?_
    refine x_iret C hQ dX4_count_111 (Nat.le_refl _) (Nat.le_refl _) ?_
    exact ⟨rfl, rfl, _, rfl, by subst c1; rfl⟩
  · refine x_aload_n C dX4_count_112 rfl ?_
    refine x_get C dX4_count_113 kfX4_19 (x0) rfl ?_
    refine x_get C dX4_count_116 kfX4_172 hs.o rfl ?_
    refine x_iret C hQ dX4_count_119 (Nat.le_refl _) (Nat.le_refl _) ?_
    exact ⟨rfl, rfl, _, rfl, by subst c1; rfl⟩
  · refine x_aload_n C dX4_count_120 rfl ?_
    refine x_get C dX4_count_121 kfX4_19 (x0) rfl ?_
    refine x_get C dX4_count_124 kfX4_175 hs.o rfl ?_
    refine x_iret C hQ dX4_count_127 (Nat.le_refl _) (Nat.le_refl _) ?_
    exact ⟨rfl, rfl, _, rfl, by subst c1; rfl⟩
  · refine x_aload_n C dX4_count_128 rfl ?_
    refine x_get C dX4_count_129 kfX4_19 (x0) rfl ?_
    refine x_get C dX4_count_132 kfX4_185 hs.o rfl ?_
    refine x_iret C hQ dX4_count_135 (Nat.le_refl _) (Nat.le_refl _) ?_
    exact ⟨rfl, rfl, _, rfl, by subst c1; rfl⟩
  · refine x_aload_n C dX4_count_136 rfl ?_
    refine x_get C dX4_count_137 kfX4_28 (x0) rfl ?_
    refine x_get C dX4_count_140 kfX4_77 (u0) rfl ?_
    refine x_iret C hQ dX4_count_143 (Nat.le_refl _) (Nat.le_refl _) ?_
    exact ⟨rfl, rfl, _, rfl, by subst c1; rfl⟩
  · refine x_aload_n C dX4_count_144 rfl ?_
    refine x_get C dX4_count_145 kfX4_32 (x0) rfl ?_
    refine x_get C dX4_count_148 kfX4_77 (k0) rfl ?_
    refine x_iret C hQ dX4_count_151 (Nat.le_refl _) (Nat.le_refl _) ?_
    exact ⟨rfl, rfl, _, rfl, by subst c1; rfl⟩
  · refine x_aload_n C dX4_count_152 rfl ?_
    refine x_get C dX4_count_153 kfX4_12 (x0) rfl ?_
    refine x_get C dX4_count_156 kfX4_71 ht.o rfl ?_
    refine x_iret C hQ dX4_count_159 (Nat.le_refl _) (Nat.le_refl _) ?_
    exact ⟨rfl, rfl, _, rfl, by subst c1; rfl⟩
  · refine x_iconst C dX4_count_160 ⟨by decide, by decide⟩ ?_
    refine x_iret C hQ dX4_count_161 (Nat.le_refl _) (Nat.le_refl _) ?_
    exact ⟨rfl, rfl, _, rfl, by unfold q_count; rw [if_neg (by omega), if_neg (by omega), if_neg (by omega), if_neg (by omega), if_neg (by omega), if_neg (by omega), if_neg (by omega), if_neg (by omega), if_neg (by omega), if_neg (by omega), if_neg (by omega), if_neg (by omega)]⟩
