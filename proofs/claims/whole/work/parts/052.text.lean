/-! ===== DisplayMap.Text ===== -/
def isTx (w : mW) (h : Nat) (tx : List Int) : Prop := ∃ j1 j2 : List Int, rT w h tx.length (tx ++ j1) j2
theorem isTx.fr {w w' : mW} {h lo up : Nat} {tx : List Int} (hS : isTx w h tx) (hf : frR w w' lo up) (hd : h + 2 < lo ∨ up < h) : isTx w' h tx := by
  obtain ⟨j1, j2, hr⟩ := hS
  exact ⟨j1, j2, hr.fr hf hd⟩
theorem isTx.len {w : mW} {h : Nat} {tx : List Int} (hS : isTx w h tx) : tx.length ≤ 200 := by
  obtain ⟨j1, j2, hr⟩ := hS
  have l1 := hr.l1
  simp only [List.length_append] at l1
  omega
def sgnF (c : Int) : Int := if 97 ≤ c ∧ c ≤ 122 then c - 97 else if c = 62 then 26 else if c = 47 then 27 else -1
def numF : List Int → List Int → Int → Int → Option (List Int)
  | [], acc, fig, val => if fig = 0 ∨ 3 ≤ acc.length then none else some (acc ++ [val])
  | c :: l, acc, fig, val => if c = 44 then (if fig = 0 ∨ 3 ≤ acc.length then none else numF l (acc ++ [val]) 0 0) else if 48 ≤ c ∧ c ≤ 57 ∧ fig < 2 then numF l acc (fig + 1) (val * 10 + (c - 48)) else none

set_option maxHeartbeats 1000000 in
set_option maxRecDepth 100000 in
theorem c_X3_append (l : Launch) {w : mW} {h : Nat} {tx : List Int} (hS : isTx w h tx) (a : Int) : Ci l yX3_append cX3_append 2 (some .boolean) 0 [vr h, vi a] w (fun z w' => (z = 0 ∨ z = 1) ∧ (z = 1 ↔ tx.length < 200) ∧ isTx w' h (if tx.length < 200 then tx ++ [a] else tx) ∧ frR w w' h (h + 2)) := by
  refine Ci.of (ml := [some (vr h), some (vi a)]) kyX3_append rfl (Nat.le_of_ble_eq_true rfl) rfl ?_
  intro t n C hQ
  have hf : frR w w h (h + 2) := frR.rf
  have hS2 := hS
  obtain ⟨j1, j2, hr⟩ := hS
  have l1 := hr.l1
  have k1 := hr.l1
  simp only [List.length_append] at l1
  refine x_aload_n C dX3_append_0 rfl ?_
  refine x_get C dX3_append_1 kfX3_18 hr.o rfl ?_
  refine x_if_lt (tgt := 19) C dX3_append_4 (by decide) (fun c4 => ?_) (fun c4 => ?_)
  · refine x_iconst C dX3_append_19 ⟨by decide, by decide⟩ ?_
    refine x_zret C hQ dX3_append_20 (by first | exact Or.inl rfl | exact Or.inr rfl | omega) (Nat.le_refl _) (Nat.le_refl _) ?_
    first | omega | exact ⟨rfl, _, rfl, by omega, by omega, by rw [if_neg (by omega)]; exact hS2, hf⟩
  · refine x_aload_n C dX3_append_7 rfl ?_
    refine x_get C dX3_append_8 kfX3_18 hr.o rfl ?_
    refine x_aload_n C dX3_append_11 rfl ?_
    refine x_get C dX3_append_12 kfX3_9 hr.o rfl ?_
    refine x_alenI C dX3_append_15 hr.a1 (by rw [hr.l1]; omega) ?_
    rw [hr.l1]
    refine x_icmp_lt (tgt := 21) C dX3_append_16 (by decide) (fun c16 => ?_) (fun c16 => ?_)
    · refine x_aload_n C dX3_append_21 rfl ?_
      refine x_get C dX3_append_22 kfX3_9 hr.o rfl ?_
      refine x_aload_n C dX3_append_25 rfl ?_
      refine x_get C dX3_append_26 kfX3_18 hr.o rfl ?_
      refine x_iload_n C dX3_append_29 rfl ?_
      refine x_iast C dX3_append_30 hr.a1 (by omega) (by rw [hr.l1]; omega) ?_
      refine ab_T_T1 hr hf (by rw [List.length_set]; exact hr.l1) (fun w hr hf => ?_)
      refine x_aload_n C dX3_append_31 rfl ?_
      refine x_dup C dX3_append_32 rfl ?_
      refine x_get C dX3_append_33 kfX3_18 hr.o rfl ?_
      refine x_iconst C dX3_append_36 ⟨by decide, by decide⟩ ?_
      refine x_iadd C dX3_append_37 (by first | (unfold iR; omega) | exact ⟨by omega, by omega⟩) ?_
      refine x_put C dX3_append_38 kfX3_18 kw_3_1 rfl rfl hr.o (Nat.le_of_ble_eq_true rfl) ?_
      refine ab_T_tl hr hf (fun w hr hf => ?_)
      refine x_iconst C dX3_append_41 ⟨by decide, by decide⟩ ?_
      refine x_zret C hQ dX3_append_42 (by first | exact Or.inl rfl | exact Or.inr rfl | omega) (Nat.le_refl _) (Nat.le_refl _) ?_
      refine ⟨rfl, _, rfl, by omega, by omega, ?_, hf⟩
      rw [if_pos (by omega)]
      obtain ⟨x1, j1, rfl⟩ : ∃ u v, j1 = u :: v := List.exists_cons_of_length_pos (by omega)
      rw [set_mid tx x1 a j1 (by omega)] at hr
      exact ⟨j1, j2, by simpa using hr⟩
    · refine x_iconst C dX3_append_19 ⟨by decide, by decide⟩ ?_
      refine x_zret C hQ dX3_append_20 (by first | exact Or.inl rfl | exact Or.inr rfl | omega) (Nat.le_refl _) (Nat.le_refl _) ?_
      first | omega | exact ⟨rfl, _, rfl, by omega, by omega, by rw [if_neg (by omega)]; exact hS2, hf⟩

set_option maxHeartbeats 1000000 in
set_option maxRecDepth 100000 in
theorem c_X3_signOf (l : Launch) {w : mW} (a : Int) : Cp l yX3_signOf cX3_signOf 1 (some .int) 0 [vi a] w (fun z => z = sgnF a) := by
  refine Cp.of (ml := [some (vi a)]) kyX3_signOf rfl (Nat.le_of_ble_eq_true rfl) rfl ?_
  intro t n C hQ
  refine x_iload_n C dX3_signOf_0 rfl ?_
  refine x_bipush C dX3_signOf_1 ⟨by decide, by decide⟩ ?_
  refine x_icmp_lt (tgt := 17) C dX3_signOf_3 (by decide) (fun c3 => ?_) (fun c3 => ?_)
  · refine x_iload_n C dX3_signOf_17 rfl ?_
    refine x_bipush C dX3_signOf_18 ⟨by decide, by decide⟩ ?_
    refine x_icmp_ne (tgt := 26) C dX3_signOf_20 (by decide) (fun c20 => ?_) (fun c20 => ?_)
    · refine x_iload_n C dX3_signOf_26 rfl ?_
      refine x_bipush C dX3_signOf_27 ⟨by decide, by decide⟩ ?_
      refine x_icmp_ne (tgt := 37) C dX3_signOf_29 (by decide) (fun c29 => ?_) (fun c29 => ?_)
      · refine x_iconst C dX3_signOf_37 ⟨by decide, by decide⟩ ?_
        refine x_iret C hQ dX3_signOf_38 (Nat.le_refl _) (Nat.le_refl _) ?_
        refine ⟨rfl, rfl, _, rfl, ?_⟩
        unfold sgnF
        first | (rw [if_pos (by omega)]; done) | (rw [if_neg (by omega), if_pos (by omega)]; done) | (rw [if_neg (by omega), if_neg (by omega), if_pos (by omega)]; done) | (rw [if_neg (by omega), if_neg (by omega), if_neg (by omega)]; done)
      · refine x_bipush C dX3_signOf_32 ⟨by decide, by decide⟩ ?_
        refine x_goto (tgt := 38) C dX3_signOf_34 (by decide) ?_
        refine x_iret C hQ dX3_signOf_38 (Nat.le_refl _) (Nat.le_refl _) ?_
        refine ⟨rfl, rfl, _, rfl, ?_⟩
        unfold sgnF
        first | (rw [if_pos (by omega)]; done) | (rw [if_neg (by omega), if_pos (by omega)]; done) | (rw [if_neg (by omega), if_neg (by omega), if_pos (by omega)]; done) | (rw [if_neg (by omega), if_neg (by omega), if_neg (by omega)]; done)
    · refine x_bipush C dX3_signOf_23 ⟨by decide, by decide⟩ ?_
      refine x_iret C hQ dX3_signOf_25 (Nat.le_refl _) (Nat.le_refl _) ?_
      refine ⟨rfl, rfl, _, rfl, ?_⟩
      unfold sgnF
      first | (rw [if_pos (by omega)]; done) | (rw [if_neg (by omega), if_pos (by omega)]; done) | (rw [if_neg (by omega), if_neg (by omega), if_pos (by omega)]; done) | (rw [if_neg (by omega), if_neg (by omega), if_neg (by omega)]; done)
  · refine x_iload_n C dX3_signOf_6 rfl ?_
    refine x_bipush C dX3_signOf_7 ⟨by decide, by decide⟩ ?_
    refine x_icmp_gt (tgt := 17) C dX3_signOf_9 (by decide) (fun c9 => ?_) (fun c9 => ?_)
    · refine x_iload_n C dX3_signOf_17 rfl ?_
      refine x_bipush C dX3_signOf_18 ⟨by decide, by decide⟩ ?_
      refine x_icmp_ne (tgt := 26) C dX3_signOf_20 (by decide) (fun c20 => ?_) (fun c20 => ?_)
      · refine x_iload_n C dX3_signOf_26 rfl ?_
        refine x_bipush C dX3_signOf_27 ⟨by decide, by decide⟩ ?_
        refine x_icmp_ne (tgt := 37) C dX3_signOf_29 (by decide) (fun c29 => ?_) (fun c29 => ?_)
        · refine x_iconst C dX3_signOf_37 ⟨by decide, by decide⟩ ?_
          refine x_iret C hQ dX3_signOf_38 (Nat.le_refl _) (Nat.le_refl _) ?_
          refine ⟨rfl, rfl, _, rfl, ?_⟩
          unfold sgnF
          first | (rw [if_pos (by omega)]; done) | (rw [if_neg (by omega), if_pos (by omega)]; done) | (rw [if_neg (by omega), if_neg (by omega), if_pos (by omega)]; done) | (rw [if_neg (by omega), if_neg (by omega), if_neg (by omega)]; done)
        · refine x_bipush C dX3_signOf_32 ⟨by decide, by decide⟩ ?_
          refine x_goto (tgt := 38) C dX3_signOf_34 (by decide) ?_
          refine x_iret C hQ dX3_signOf_38 (Nat.le_refl _) (Nat.le_refl _) ?_
          refine ⟨rfl, rfl, _, rfl, ?_⟩
          unfold sgnF
          first | (rw [if_pos (by omega)]; done) | (rw [if_neg (by omega), if_pos (by omega)]; done) | (rw [if_neg (by omega), if_neg (by omega), if_pos (by omega)]; done) | (rw [if_neg (by omega), if_neg (by omega), if_neg (by omega)]; done)
      · refine x_bipush C dX3_signOf_23 ⟨by decide, by decide⟩ ?_
        refine x_iret C hQ dX3_signOf_25 (Nat.le_refl _) (Nat.le_refl _) ?_
        refine ⟨rfl, rfl, _, rfl, ?_⟩
        unfold sgnF
        first | (rw [if_pos (by omega)]; done) | (rw [if_neg (by omega), if_pos (by omega)]; done) | (rw [if_neg (by omega), if_neg (by omega), if_pos (by omega)]; done) | (rw [if_neg (by omega), if_neg (by omega), if_neg (by omega)]; done)
    · refine x_iload_n C dX3_signOf_12 rfl ?_
      refine x_bipush C dX3_signOf_13 ⟨by decide, by decide⟩ ?_
      refine x_isub C dX3_signOf_15 (by first | (unfold iR; omega) | exact ⟨by omega, by omega⟩) ?_
      refine x_iret C hQ dX3_signOf_16 (Nat.le_refl _) (Nat.le_refl _) ?_
      refine ⟨rfl, rfl, _, rfl, ?_⟩
      unfold sgnF
      first | (rw [if_pos (by omega)]; done) | (rw [if_neg (by omega), if_pos (by omega)]; done) | (rw [if_neg (by omega), if_neg (by omega), if_pos (by omega)]; done) | (rw [if_neg (by omega), if_neg (by omega), if_neg (by omega)]; done)

set_option maxHeartbeats 1000000 in
set_option maxRecDepth 100000 in
theorem lp_X3_endOfItem {t : TX} {l : Launch} {n0 : Nat} {w : mW} {h : Nat} {tx : List Int} (hS : isTx w h tx) (a : Int) (C : Cb t l cX3_endOfItem RX3 3 (some .int) 0 0 0) {Q : Int → Prop} (hQ : RQ t 0 0 (fun r n' w' => n' = n0 ∧ w' = w ∧ ∃ z : Int, r = some (vi z) ∧ Q z)) : ∀ (R P : List Int) (k : Int), tx = P ++ R → k = P.length → Q (fIdx (fun c => decide (c = 59)) R k) → J t 0 0 2 [some (vr h), some (vi a), some (vi k)] [] n0 w := by
  obtain ⟨j1, j2, hr⟩ := hS
  have l1 := hr.l1
  simp only [List.length_append] at l1
  intro R
  induction R with
  | nil =>
    intro P k hP hk hq
    have hl : tx.length = P.length := by rw [hP]; simp
    refine x_iload_n C dX3_endOfItem_2 rfl ?_
    refine x_aload_n C dX3_endOfItem_3 rfl ?_
    refine x_get C dX3_endOfItem_4 kfX3_18 hr.o rfl ?_
    refine x_icmp_ge (tgt := 29) C dX3_endOfItem_7 (by decide) (fun c7 => ?_) (fun c7 => ?_)
    · refine x_iconst C dX3_endOfItem_29 ⟨by decide, by decide⟩ ?_
      refine x_iret C hQ dX3_endOfItem_30 (Nat.le_refl _) (Nat.le_refl _) ?_
      exact ⟨rfl, rfl, _, rfl, hq⟩
    · omega
  | cons r R ih =>
    intro P k hP hk hq
    have hl : tx.length = P.length + (R.length + 1) := by rw [hP]; simp
    have e1 : (tx ++ j1).getD k.toNat 0 = r := by rw [hP, List.append_assoc]; exact gd_mid P r _ (by omega)
    unfold fIdx at hq
    refine x_iload_n C dX3_endOfItem_2 rfl ?_
    refine x_aload_n C dX3_endOfItem_3 rfl ?_
    refine x_get C dX3_endOfItem_4 kfX3_18 hr.o rfl ?_
    refine x_icmp_ge (tgt := 29) C dX3_endOfItem_7 (by decide) (fun c7 => ?_) (fun c7 => ?_)
    · omega
    · refine x_aload_n C dX3_endOfItem_10 rfl ?_
      refine x_get C dX3_endOfItem_11 kfX3_9 hr.o rfl ?_
      refine x_iload_n C dX3_endOfItem_14 rfl ?_
      refine x_iald C dX3_endOfItem_15 hr.a1 (by omega) (by rw [hr.l1]; omega) ?_
      rw [e1]
      refine x_bipush C dX3_endOfItem_16 ⟨by decide, by decide⟩ ?_
      refine x_icmp_ne (tgt := 23) C dX3_endOfItem_18 (by decide) (fun c18 => ?_) (fun c18 => ?_)
      · refine s_inc3_2 C dX3_endOfItem_23 rfl (by first | (unfold iR; omega) | exact ⟨by omega, by omega⟩) ?_
        refine x_goto (tgt := 2) C dX3_endOfItem_26 (by decide) ?_
        exact ih (P ++ [r]) (k + 1) (by rw [hP]; simp) (by simp; omega) (by rw [if_neg (by simp; omega)] at hq; exact hq)
      · refine x_iload_n C dX3_endOfItem_21 rfl ?_
        refine x_iret C hQ dX3_endOfItem_22 (Nat.le_refl _) (Nat.le_refl _) ?_
        exact ⟨rfl, rfl, _, rfl, by rw [if_pos (by simp; omega)] at hq; exact hq⟩

set_option maxHeartbeats 1000000 in
set_option maxRecDepth 100000 in
theorem c_X3_endOfItem (l : Launch) {w : mW} {h : Nat} {tx : List Int} (hS : isTx w h tx) (a : Int) {P R : List Int} (hP : tx = P ++ R) (ha : a = P.length) : Cp l yX3_endOfItem cX3_endOfItem 3 (some .int) 0 [vr h, vi a] w (fun z => z = fIdx (fun c => decide (c = 59)) R a) := by
  refine Cp.of (ml := [some (vr h), some (vi a), none]) kyX3_endOfItem rfl (Nat.le_of_ble_eq_true rfl) rfl ?_
  intro t n C hQ
  refine x_iload_n C dX3_endOfItem_0 rfl ?_
  refine s_ist3_2 C dX3_endOfItem_1 rfl ?_
  exact lp_X3_endOfItem hS a C hQ R P a hP ha rfl

set_option maxHeartbeats 1000000 in
set_option maxRecDepth 100000 in
theorem lp_X3_readNumbers {t : TX} {l : Launch} {n0 : Nat} {w0 : mW} {h : Nat} {tl : Int} {T1 post : List Int} (a b : Int) (C : Cb t l cX3_readNumbers RX3 8 (some .int) 0 0 0) {Q : Int → mW → Prop} (hQ : RQ t 0 0 (fun r n' w' => n' = n0 ∧ ∃ z : Int, r = some (vi z) ∧ Q z w')) {res : Option (List Int)} (hfin : ∀ (z : Int) (w' : mW) (T2 : List Int), rT w' h tl T1 T2 → frR w0 w' h (h + 2) → (res = none → z = -1) → (∀ ns, res = some ns → z = ns.length ∧ ∃ j, T2 = ns ++ j) → Q z w') : ∀ (R P acc : List Int) (fig val k cn : Int) (x7 : Option mV) (J2 : List Int) (w : mW), T1 = P ++ (R ++ post) → k = P.length → b = k + R.length → cn = acc.length → rT w h tl T1 (acc ++ J2) → frR w0 w h (h + 2) → (0 ≤ fig ∧ fig ≤ 2) → (0 ≤ val ∧ val ≤ 99 ∧ (fig = 0 → val = 0) ∧ (fig = 1 → val ≤ 9)) → numF R acc fig val = res → J t 0 0 11 [some (vr h), some (vi a), some (vi b), some (vi cn), some (vi fig), some (vi val), some (vi k), x7] [] n0 w := by
  intro R
  induction R with
  | nil =>
    intro P acc fig val k cn x7 J2 w hT hk hb hcn hr hf hfig hval hres
    have l1 := hr.l1
    have l2 := hr.l2
    have k2 := hr.l2
    simp only [List.length_append] at l2
    simp only [List.length_nil] at hb
    have hTl : P.length + post.length = 200 := by rw [hT] at l1; simpa using l1
    refine x_iload C dX3_readNumbers_11 rfl ?_
    refine x_iload_n C dX3_readNumbers_13 rfl ?_
    refine x_icmp_gt (tgt := 127) C dX3_readNumbers_14 (by decide) (fun c14 => absurd c14 (by omega)) (fun c14 => ?_)
    refine x_iload C dX3_readNumbers_17 rfl ?_
    refine x_iload_n C dX3_readNumbers_19 rfl ?_
    refine x_icmp_ge (tgt := 33) C dX3_readNumbers_20 (by decide) (fun c20 => ?_) (fun c20 => absurd c20 (by omega))
    refine x_bipush C dX3_readNumbers_33 ⟨by decide, by decide⟩ ?_
    refine s_is8_7 C dX3_readNumbers_35 rfl ?_
    refine x_iload C dX3_readNumbers_37 rfl ?_
    refine x_bipush C dX3_readNumbers_39 ⟨by decide, by decide⟩ ?_
    refine x_icmp_ne (tgt := 80) C dX3_readNumbers_41 (by decide) (fun c41 => absurd c41 (by omega)) (fun c41 => ?_)
    refine x_iload C dX3_readNumbers_44 rfl ?_
    refine x_if_eq (tgt := 58) C dX3_readNumbers_46 (by decide) (fun c46 => ?_) (fun c46 => ?_)
    · refine x_iconst C dX3_readNumbers_58 ⟨by decide, by decide⟩ ?_
      refine x_iret C hQ dX3_readNumbers_59 (Nat.le_refl _) (Nat.le_refl _) ?_
      refine ⟨rfl, _, rfl, hfin _ w _ hr hf (fun _ => rfl) (fun ns hns => ?_)⟩
      rw [← hres] at hns
      unfold numF at hns
      rw [if_pos (by omega)] at hns
      cases hns
    · refine x_iload_n C dX3_readNumbers_49 rfl ?_
      refine x_aload_n C dX3_readNumbers_50 rfl ?_
      refine x_get C dX3_readNumbers_51 kfX3_15 hr.o rfl ?_
      refine x_alenI C dX3_readNumbers_54 hr.a2 (by rw [hr.l2]; omega) ?_
      rw [hr.l2]
      refine x_icmp_lt (tgt := 60) C dX3_readNumbers_55 (by decide) (fun c55 => ?_) (fun c55 => ?_)
      · obtain ⟨x2, J2, rfl⟩ : ∃ u v, J2 = u :: v := List.exists_cons_of_length_pos (by omega)
        refine x_aload_n C dX3_readNumbers_60 rfl ?_
        refine x_get C dX3_readNumbers_61 kfX3_15 hr.o rfl ?_
        refine x_iload_n C dX3_readNumbers_64 rfl ?_
        refine x_iload C dX3_readNumbers_65 rfl ?_
        refine x_iast C dX3_readNumbers_67 hr.a2 (by omega) (by rw [hr.l2]; omega) ?_
        refine ab_T_T2 hr hf (by rw [List.length_set]; exact hr.l2) (fun w hr hf => ?_)
        refine s_inc8_3 C dX3_readNumbers_68 rfl (by first | (unfold iR; omega) | exact ⟨by omega, by omega⟩) ?_
        refine x_iconst C dX3_readNumbers_71 ⟨by decide, by decide⟩ ?_
        refine s_is8_4 C dX3_readNumbers_72 rfl ?_
        refine x_iconst C dX3_readNumbers_74 ⟨by decide, by decide⟩ ?_
        refine s_is8_5 C dX3_readNumbers_75 rfl ?_
        refine x_goto (tgt := 121) C dX3_readNumbers_77 (by decide) ?_
        refine s_inc8_6 C dX3_readNumbers_121 rfl (by first | (unfold iR; omega) | exact ⟨by omega, by omega⟩) ?_
        refine x_goto (tgt := 11) C dX3_readNumbers_124 (by decide) ?_
        refine x_iload C dX3_readNumbers_11 rfl ?_
        refine x_iload_n C dX3_readNumbers_13 rfl ?_
        refine x_icmp_gt (tgt := 127) C dX3_readNumbers_14 (by decide) (fun c14 => ?_) (fun c14 => absurd c14 (by omega))
        refine x_iload_n C dX3_readNumbers_127 rfl ?_
        refine x_iret C hQ dX3_readNumbers_128 (Nat.le_refl _) (Nat.le_refl _) ?_
        refine ⟨rfl, _, rfl, hfin _ w _ hr hf (fun hn => ?_) (fun ns hns => ?_)⟩
        · rw [← hres] at hn
          unfold numF at hn
          rw [if_neg (by omega)] at hn
          cases hn
        · rw [← hres] at hns
          unfold numF at hns
          rw [if_neg (by omega)] at hns
          cases hns
          exact ⟨by simp; omega, J2, by rw [set_mid acc x2 val J2 (by omega)]; simp⟩
      · refine x_iconst C dX3_readNumbers_58 ⟨by decide, by decide⟩ ?_
        refine x_iret C hQ dX3_readNumbers_59 (Nat.le_refl _) (Nat.le_refl _) ?_
        refine ⟨rfl, _, rfl, hfin _ w _ hr hf (fun _ => rfl) (fun ns hns => ?_)⟩
        rw [← hres] at hns
        unfold numF at hns
        rw [if_pos (by omega)] at hns
        cases hns
  | cons c9 R ih =>
    intro P acc fig val k cn x7 J2 w hT hk hb hcn hr hf hfig hval hres
    have l1 := hr.l1
    have l2 := hr.l2
    have k2 := hr.l2
    simp only [List.length_append] at l2
    simp only [List.length_cons] at hb
    have hTl : P.length + (R.length + 1 + post.length) = 200 := by rw [hT] at l1; simp at l1; omega
    have e1 : T1.getD k.toNat 0 = c9 := by rw [hT]; exact gd_mid P c9 _ (by omega)
    refine x_iload C dX3_readNumbers_11 rfl ?_
    refine x_iload_n C dX3_readNumbers_13 rfl ?_
    refine x_icmp_gt (tgt := 127) C dX3_readNumbers_14 (by decide) (fun c14 => absurd c14 (by omega)) (fun c14 => ?_)
    refine x_iload C dX3_readNumbers_17 rfl ?_
    refine x_iload_n C dX3_readNumbers_19 rfl ?_
    refine x_icmp_ge (tgt := 33) C dX3_readNumbers_20 (by decide) (fun c20 => absurd c20 (by omega)) (fun c20 => ?_)
    refine x_aload_n C dX3_readNumbers_23 rfl ?_
    refine x_get C dX3_readNumbers_24 kfX3_9 hr.o rfl ?_
    refine x_iload C dX3_readNumbers_27 rfl ?_
    refine x_iald C dX3_readNumbers_29 hr.a1 (by omega) (by rw [hr.l1]; omega) ?_
    rw [e1]
    refine x_goto (tgt := 35) C dX3_readNumbers_30 (by decide) ?_
    refine s_is8_7 C dX3_readNumbers_35 rfl ?_
    refine x_iload C dX3_readNumbers_37 rfl ?_
    refine x_bipush C dX3_readNumbers_39 ⟨by decide, by decide⟩ ?_
    refine x_icmp_ne (tgt := 80) C dX3_readNumbers_41 (by decide) (fun c41 => ?_) (fun c41 => ?_)
    · refine x_iload C dX3_readNumbers_80 rfl ?_
      refine x_bipush C dX3_readNumbers_82 ⟨by decide, by decide⟩ ?_
      refine x_icmp_lt (tgt := 119) C dX3_readNumbers_84 (by decide) (fun c84 => ?_) (fun c84 => ?_)
      · refine x_iconst C dX3_readNumbers_119 ⟨by decide, by decide⟩ ?_
        refine x_iret C hQ dX3_readNumbers_120 (Nat.le_refl _) (Nat.le_refl _) ?_
        refine ⟨rfl, _, rfl, hfin _ w _ hr hf (fun _ => rfl) (fun ns hns => ?_)⟩
        rw [← hres] at hns
        unfold numF at hns
        rw [if_neg (by omega), if_neg (by omega)] at hns
        cases hns
      · refine x_iload C dX3_readNumbers_87 rfl ?_
        refine x_bipush C dX3_readNumbers_89 ⟨by decide, by decide⟩ ?_
        refine x_icmp_gt (tgt := 119) C dX3_readNumbers_91 (by decide) (fun c91 => ?_) (fun c91 => ?_)
        · refine x_iconst C dX3_readNumbers_119 ⟨by decide, by decide⟩ ?_
          refine x_iret C hQ dX3_readNumbers_120 (Nat.le_refl _) (Nat.le_refl _) ?_
          refine ⟨rfl, _, rfl, hfin _ w _ hr hf (fun _ => rfl) (fun ns hns => ?_)⟩
          rw [← hres] at hns
          unfold numF at hns
          rw [if_neg (by omega), if_neg (by omega)] at hns
          cases hns
        · refine x_iload C dX3_readNumbers_94 rfl ?_
          refine x_iconst C dX3_readNumbers_96 ⟨by decide, by decide⟩ ?_
          refine x_icmp_ge (tgt := 119) C dX3_readNumbers_97 (by decide) (fun c97 => ?_) (fun c97 => ?_)
          · refine x_iconst C dX3_readNumbers_119 ⟨by decide, by decide⟩ ?_
            refine x_iret C hQ dX3_readNumbers_120 (Nat.le_refl _) (Nat.le_refl _) ?_
            refine ⟨rfl, _, rfl, hfin _ w _ hr hf (fun _ => rfl) (fun ns hns => ?_)⟩
            rw [← hres] at hns
            unfold numF at hns
            rw [if_neg (by omega), if_neg (by omega)] at hns
            cases hns
          · refine x_iload C dX3_readNumbers_100 rfl ?_
            refine x_bipush C dX3_readNumbers_102 ⟨by decide, by decide⟩ ?_
            refine x_imul C dX3_readNumbers_104 (by first | (unfold iR; omega) | exact ⟨by omega, by omega⟩) ?_
            refine x_iload C dX3_readNumbers_105 rfl ?_
            refine x_bipush C dX3_readNumbers_107 ⟨by decide, by decide⟩ ?_
            refine x_isub C dX3_readNumbers_109 (by first | (unfold iR; omega) | exact ⟨by omega, by omega⟩) ?_
            refine x_iadd C dX3_readNumbers_110 (by first | (unfold iR; omega) | exact ⟨by omega, by omega⟩) ?_
            refine s_is8_5 C dX3_readNumbers_111 rfl ?_
            refine s_inc8_4 C dX3_readNumbers_113 rfl (by first | (unfold iR; omega) | exact ⟨by omega, by omega⟩) ?_
            refine x_goto (tgt := 121) C dX3_readNumbers_116 (by decide) ?_
            refine s_inc8_6 C dX3_readNumbers_121 rfl (by first | (unfold iR; omega) | exact ⟨by omega, by omega⟩) ?_
            refine x_goto (tgt := 11) C dX3_readNumbers_124 (by decide) ?_
            refine ih (P ++ [c9]) acc (fig + 1) (val * 10 + (c9 - 48)) (k + 1) cn _ J2 w (by rw [hT]; simp) (by simp; omega) (by omega) hcn hr hf (by omega) (by omega) ?_
            rw [← hres]
            conv => rhs; unfold numF
            rw [if_neg (by omega), if_pos (by omega)]
    · refine x_iload C dX3_readNumbers_44 rfl ?_
      refine x_if_eq (tgt := 58) C dX3_readNumbers_46 (by decide) (fun c46 => ?_) (fun c46 => ?_)
      · refine x_iconst C dX3_readNumbers_58 ⟨by decide, by decide⟩ ?_
        refine x_iret C hQ dX3_readNumbers_59 (Nat.le_refl _) (Nat.le_refl _) ?_
        refine ⟨rfl, _, rfl, hfin _ w _ hr hf (fun _ => rfl) (fun ns hns => ?_)⟩
        rw [← hres] at hns
        unfold numF at hns
        rw [if_pos (by omega), if_pos (by omega)] at hns
        cases hns
      · refine x_iload_n C dX3_readNumbers_49 rfl ?_
        refine x_aload_n C dX3_readNumbers_50 rfl ?_
        refine x_get C dX3_readNumbers_51 kfX3_15 hr.o rfl ?_
        refine x_alenI C dX3_readNumbers_54 hr.a2 (by rw [hr.l2]; omega) ?_
        rw [hr.l2]
        refine x_icmp_lt (tgt := 60) C dX3_readNumbers_55 (by decide) (fun c55 => ?_) (fun c55 => ?_)
        · obtain ⟨x2, J2, rfl⟩ : ∃ u v, J2 = u :: v := List.exists_cons_of_length_pos (by omega)
          refine x_aload_n C dX3_readNumbers_60 rfl ?_
          refine x_get C dX3_readNumbers_61 kfX3_15 hr.o rfl ?_
          refine x_iload_n C dX3_readNumbers_64 rfl ?_
          refine x_iload C dX3_readNumbers_65 rfl ?_
          refine x_iast C dX3_readNumbers_67 hr.a2 (by omega) (by rw [hr.l2]; omega) ?_
          refine ab_T_T2 hr hf (by rw [List.length_set]; exact hr.l2) (fun w hr hf => ?_)
          refine s_inc8_3 C dX3_readNumbers_68 rfl (by first | (unfold iR; omega) | exact ⟨by omega, by omega⟩) ?_
          refine x_iconst C dX3_readNumbers_71 ⟨by decide, by decide⟩ ?_
          refine s_is8_4 C dX3_readNumbers_72 rfl ?_
          refine x_iconst C dX3_readNumbers_74 ⟨by decide, by decide⟩ ?_
          refine s_is8_5 C dX3_readNumbers_75 rfl ?_
          refine x_goto (tgt := 121) C dX3_readNumbers_77 (by decide) ?_
          refine s_inc8_6 C dX3_readNumbers_121 rfl (by first | (unfold iR; omega) | exact ⟨by omega, by omega⟩) ?_
          refine x_goto (tgt := 11) C dX3_readNumbers_124 (by decide) ?_
          rw [set_mid acc x2 val J2 (by omega)] at hr
          refine ih (P ++ [c9]) (acc ++ [val]) 0 0 (k + 1) (cn + 1) _ J2 w (by rw [hT]; simp) (by simp; omega) (by omega) (by simp; omega) (by simpa using hr) hf (by omega) (by omega) ?_
          rw [← hres]
          conv => rhs; unfold numF
          rw [if_pos (by omega), if_neg (by omega)]
        · refine x_iconst C dX3_readNumbers_58 ⟨by decide, by decide⟩ ?_
          refine x_iret C hQ dX3_readNumbers_59 (Nat.le_refl _) (Nat.le_refl _) ?_
          refine ⟨rfl, _, rfl, hfin _ w _ hr hf (fun _ => rfl) (fun ns hns => ?_)⟩
          rw [← hres] at hns
          unfold numF at hns
          rw [if_pos (by omega), if_pos (by omega)] at hns
          cases hns

set_option maxHeartbeats 1000000 in
set_option maxRecDepth 100000 in
theorem c_X3_readNumbers (l : Launch) {w : mW} {h : Nat} {tl : Int} {T1 T2 : List Int} (hr : rT w h tl T1 T2) (a b : Int) {P R post : List Int} (hT : T1 = P ++ (R ++ post)) (ha : a = P.length) (hb : b = a + R.length) : Ci l yX3_readNumbers cX3_readNumbers 8 (some .int) 0 [vr h, vi a, vi b] w (fun z w' => ∃ T2', rT w' h tl T1 T2' ∧ frR w w' h (h + 2) ∧ (numF R [] 0 0 = none → z = -1) ∧ (∀ ns, numF R [] 0 0 = some ns → z = ns.length ∧ ∃ j, T2' = ns ++ j)) := by
  refine Ci.of (ml := [some (vr h), some (vi a), some (vi b), none, none, none, none, none]) kyX3_readNumbers rfl (Nat.le_of_ble_eq_true rfl) rfl ?_
  intro t n C hQ
  have hf : frR w w h (h + 2) := frR.rf
  refine x_iconst C dX3_readNumbers_0 ⟨by decide, by decide⟩ ?_
  refine s_ist8_3 C dX3_readNumbers_1 rfl ?_
  refine x_iconst C dX3_readNumbers_2 ⟨by decide, by decide⟩ ?_
  refine s_is8_4 C dX3_readNumbers_3 rfl ?_
  refine x_iconst C dX3_readNumbers_5 ⟨by decide, by decide⟩ ?_
  refine s_is8_5 C dX3_readNumbers_6 rfl ?_
  refine x_iload_n C dX3_readNumbers_8 rfl ?_
  refine s_is8_6 C dX3_readNumbers_9 rfl ?_
  exact lp_X3_readNumbers a b C hQ (fun z w9 T9 h1 h2 h3 h4 => ⟨T9, h1, h2, h3, h4⟩) R P [] 0 0 a 0 none T2 w hT ha hb rfl hr hf (by omega) (by omega) rfl
