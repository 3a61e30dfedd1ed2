/-! ===== DisplayMap.Text: the whole text ===== -/
def cut : List Int → Option (List Int × List Int)
  | [] => none
  | c :: l => if c = 59 then some ([], l) else (cut l).map (fun q => (c :: q.1, q.2))
def rdT : Nat → Int → List Int → mF → Int × mF
  | 0, _, _, F => (-4, F)
  | m + 1, k, R, F => if R = [] then (-4, F) else match cut R with
    | none => (k, F)
    | some q => match itemF (decide (k = 0)) q.1 F with
      | none => (k, F)
      | some F' => rdT m (k + q.1.length + 1) q.2 F'
abbrev F00 : mF := (([], [], []), 1, 8, 0, 4)
theorem cut_app : ∀ (P R : List Int), (∀ y ∈ P, decide (y = 59) = false) → cut (P ++ 59 :: R) = some (P, R)
  | [], R, _ => by simp [cut]
  | c :: P, R, h => by
    have h1 := h c List.mem_cons_self
    rw [List.cons_append, cut, if_neg (by simpa using h1), cut_app P R (fun y hy => h y (List.mem_cons_of_mem _ hy))]
    rfl
theorem cut_none : ∀ (R : List Int), (∀ y ∈ R, decide (y = 59) = false) → cut R = none
  | [], _ => rfl
  | c :: R, h => by
    have h1 := h c List.mem_cons_self
    rw [cut, if_neg (by simpa using h1), cut_none R (fun y hy => h y (List.mem_cons_of_mem _ hy))]
    rfl
def fr2 (w w' : mW) (h u : Nat) : Prop := ∀ a : Nat, (a < h ∨ h + 2 < a) → (a < u ∨ u + 6 < a) → w' a = w a
/-- at first nothing is folded, nothing hinted -/
def fstF (a : Int) (F : mF) : Prop := a = 0 → F.1.2.1 = [] ∧ F.1.2.2 = []

set_option maxHeartbeats 1000000 in
set_option maxRecDepth 100000 in
theorem c_X3_readNumbers0 (l : Launch) {w : mW} {h : Nat} {tl : Int} {T1 T2 : List Int} (hr : rT w h tl T1 T2) (a b : Int) (hba : b < a) : Cp l yX3_readNumbers cX3_readNumbers 8 (some .int) 0 [vr h, vi a, vi b] w (fun z => z = 0) := by
  refine Cp.of (ml := [some (vr h), some (vi a), some (vi b), none, none, none, none, none]) kyX3_readNumbers rfl (Nat.le_of_ble_eq_true rfl) rfl ?_
  intro t n C hQ
  refine x_iconst C dX3_readNumbers_0 ⟨by decide, by decide⟩ ?_
  refine s_ist8_3 C dX3_readNumbers_1 rfl ?_
  refine x_iconst C dX3_readNumbers_2 ⟨by decide, by decide⟩ ?_
  refine s_is8_4 C dX3_readNumbers_3 rfl ?_
  refine x_iconst C dX3_readNumbers_5 ⟨by decide, by decide⟩ ?_
  refine s_is8_5 C dX3_readNumbers_6 rfl ?_
  refine x_iload_n C dX3_readNumbers_8 rfl ?_
  refine s_is8_6 C dX3_readNumbers_9 rfl ?_
  refine x_iload C dX3_readNumbers_11 rfl ?_
  refine x_iload_n C dX3_readNumbers_13 rfl ?_
  refine x_icmp_gt (tgt := 127) C dX3_readNumbers_14 (by decide) (fun c14 => ?_) (fun c14 => absurd c14 (by omega))
  refine x_iload_n C dX3_readNumbers_127 rfl ?_
  refine x_iret C hQ dX3_readNumbers_128 (Nat.le_refl _) (Nat.le_refl _) ?_
  exact ⟨rfl, rfl, _, rfl, rfl⟩

set_option maxHeartbeats 1000000 in
set_option maxRecDepth 100000 in
theorem c_X3_readItem0 (l : Launch) {w : mW} {h u : Nat} {tl : Int} {T1 T2 P post : List Int} (hr : rT w h tl T1 T2) (a b : Int) (hT : T1 = P ++ (59 :: post)) (ha : a = P.length) (hb : b = a) : Cp l yX3_readItem cX3_readItem 6 (some .boolean) 3 [vr h, vi a, vi b, vr u] w (fun z => z = 0) := by
  refine Cp.of (ml := [some (vr h), some (vi a), some (vi b), some (vr u), none, none]) kyX3_readItem rfl (Nat.le_of_ble_eq_true rfl) rfl ?_
  intro t n C hQ
  have l1 := hr.l1
  have hTl : P.length + (1 + post.length) = 200 := by rw [hT] at l1; simp at l1; omega
  have e1 : T1.getD a.toNat 0 = 59 := by rw [hT]; exact gd_mid P 59 _ (by omega)
  refine x_aload_n C dX3_readItem_0 rfl ?_
  refine x_get C dX3_readItem_1 kfX3_9 hr.o rfl ?_
  refine x_iload_n C dX3_readItem_4 rfl ?_
  refine x_iald C dX3_readItem_5 hr.a1 (by omega) (by rw [hr.l1]; omega) ?_
  rw [e1]
  refine s_is6_4 C dX3_readItem_6 rfl ?_
  refine x_iload C dX3_readItem_8 rfl ?_
  refine x_bipush C dX3_readItem_10 ⟨by decide, by decide⟩ ?_
  refine x_icmp_ne (tgt := 37) C dX3_readItem_12 (by decide) (fun c12 => ?_) (fun c12 => absurd c12 (by omega))
  refine x_aload_n C dX3_readItem_37 rfl ?_
  refine x_iload_n C dX3_readItem_38 rfl ?_
  refine x_iconst C dX3_readItem_39 ⟨by decide, by decide⟩ ?_
  refine x_iadd C dX3_readItem_40 (by first | (unfold iR; omega) | exact ⟨by omega, by omega⟩) ?_
  refine x_iload_n C dX3_readItem_41 rfl ?_
  refine y_p2 C dX3_readItem_42 kyX3_readNumbers knX3_readNumbers kmX3_38 hr.o (c_X3_readNumbers0 l hr (a + 1) b (by omega)) (by decide) (Nat.zero_le _) (Nat.zero_le _) (Nat.le_of_ble_eq_true rfl) (fun z42 q42 => ?_)
  refine s_is6_5 C dX3_readItem_45 rfl ?_
  refine x_iload C dX3_readItem_47 rfl ?_
  refine sw_X3_readItem_49 C (fun c49 => ?_) (fun c49 => ?_) (fun c49 => ?_) (fun c49 => ?_) (fun c49 => ?_)
  · omega
  · omega
  · omega
  · omega
  · refine x_iconst C dX3_readItem_172 ⟨by decide, by decide⟩ ?_
    refine x_zret C hQ dX3_readItem_173 (by first | exact Or.inl rfl | exact Or.inr rfl | omega) (Nat.le_refl _) (Nat.le_refl _) ?_
    first | omega | exact ⟨rfl, rfl, _, rfl, rfl⟩

set_option maxHeartbeats 1000000 in
set_option maxRecDepth 100000 in
theorem lp_X3_readInto {t : TX} {l : Launch} {n0 : Nat} {w0 : mW} {h u : Nat} {tx j1 : List Int} (hd : h + 2 < u ∨ u + 6 < h) (C : Cb t l cX3_readInto RX3 5 (some .int) 4 0 0) {Q : Int → mW → Prop} (hQ : RQ t 0 0 (fun r n' w' => n' = n0 ∧ ∃ z : Int, r = some (vi z) ∧ Q z w')) {res : Int × mF} (hfin : ∀ (z : Int) (w' : mW), fr2 w0 w' h u → isTx w' h tx → z = res.1 → (z = -4 → isF w' u res.2) → anySh w' u → Q z w') : ∀ (m : Nat) (P R : List Int) (a it : Int) (x4 : Option mV) (F : mF) (T2 : List Int) (w : mW), R.length < m → tx = P ++ R → a = P.length → (0 ≤ it ∧ it + R.length ≤ 200) → rT w h tx.length (tx ++ j1) T2 → fr2 w0 w h u → isF w u F → fstF a F → rdT m a R F = res → J t 0 0 8 [some (vr h), some (vr u), some (vi a), some (vi it), x4] [] n0 w := by
  intro m
  induction m with
  | zero => intro P R a it x4 F T2 w hm; omega
  | succ m ih =>
    intro P R a it x4 F T2 w hm htx ha hit hr hf hF hfst hres
    have l1 := hr.l1
    simp only [List.length_append] at l1
    have hl : tx.length = P.length + R.length := by rw [htx]; simp
    have hF2 := hF
    obtain ⟨i1, i2, i3, i4, i5, i6, hs⟩ := hF2
    refine x_iload_n C dX3_readInto_8 rfl ?_
    refine x_sipush C dX3_readInto_9 ⟨by decide, by decide⟩ ?_
    refine x_icmp_ge (tgt := 59) C dX3_readInto_12 (by decide) (fun c12 => ?_) (fun c12 => ?_)
    · have hR0 : R = [] := List.eq_nil_of_length_eq_zero (by omega)
      refine x_bipush C dX3_readInto_59 ⟨by decide, by decide⟩ ?_
      refine x_iret C hQ dX3_readInto_61 (Nat.le_refl _) (Nat.le_refl _) ?_
      refine ⟨rfl, _, rfl, hfin _ w hf ⟨j1, T2, hr⟩ ?_ (fun _ => ?_) hF.any⟩
      · rw [← hres, rdT, if_pos hR0]
      · rw [← hres, rdT, if_pos hR0]; exact hF
    · refine x_iload_n C dX3_readInto_15 rfl ?_
      refine x_aload_n C dX3_readInto_16 rfl ?_
      refine x_get C dX3_readInto_17 kfX3_18 hr.o rfl ?_
      refine x_icmp_ge (tgt := 59) C dX3_readInto_20 (by decide) (fun c20 => ?_) (fun c20 => ?_)
      · have hR0 : R = [] := List.eq_nil_of_length_eq_zero (by omega)
        refine x_bipush C dX3_readInto_59 ⟨by decide, by decide⟩ ?_
        refine x_iret C hQ dX3_readInto_61 (Nat.le_refl _) (Nat.le_refl _) ?_
        refine ⟨rfl, _, rfl, hfin _ w hf ⟨j1, T2, hr⟩ ?_ (fun _ => ?_) hF.any⟩
        · rw [← hres, rdT, if_pos hR0]
        · rw [← hres, rdT, if_pos hR0]; exact hF
      · have hRne : R ≠ [] := by intro h9; rw [h9] at hl; simp at hl; omega
        refine x_aload_n C dX3_readInto_23 rfl ?_
        refine x_iload_n C dX3_readInto_24 rfl ?_
        refine y_p1 C dX3_readInto_25 kyX3_endOfItem knX3_endOfItem kmX3_27 hr.o (c_X3_endOfItem l ⟨j1, T2, hr⟩ a htx ha) (by decide) (Nat.zero_le _) (Nat.zero_le _) (Nat.le_of_ble_eq_true rfl) (fun z25 q25 => ?_)
        refine s_is5_4 C dX3_readInto_28 rfl ?_
        refine x_iload C dX3_readInto_30 rfl ?_
        refine x_if_lt (tgt := 46) C dX3_readInto_32 (by decide) (fun c32 => ?_) (fun c32 => ?_)
        · refine x_iload_n C dX3_readInto_46 rfl ?_
          refine x_iret C hQ dX3_readInto_47 (Nat.le_refl _) (Nat.le_refl _) ?_
          refine ⟨rfl, _, rfl, hfin _ w hf ⟨j1, T2, hr⟩ ?_ (fun h9 => by omega) hF.any⟩
          have hc := cut_none R ((fIdx_neg _ R a (by omega)).1.mp (by omega))
          rw [← hres, rdT, if_neg hRne, hc]
        · obtain ⟨I0, R3, x59, hR, hx59, hno, hz⟩ := fIdx_at (fun c => decide (c = 59)) R a (by omega) (by omega)
          have hx59 : x59 = 59 := by simpa using hx59
          subst hx59
          have hcut : cut R = some (I0, R3) := by rw [hR]; exact cut_app I0 R3 hno
          have hl3 : R.length = I0.length + (R3.length + 1) := by rw [hR]; simp
          cases I0 with
          | nil =>
            have hT0 : tx ++ j1 = P ++ (59 :: (R3 ++ j1)) := by rw [htx, hR]; simp
            simp only [List.length_nil] at hz hl3
            refine x_aload_n C dX3_readInto_35 rfl ?_
            refine x_iload_n C dX3_readInto_36 rfl ?_
            refine x_iload C dX3_readInto_37 rfl ?_
            refine x_aload_n C dX3_readInto_39 rfl ?_
            refine y_p3 C dX3_readInto_40 kyX3_readItem knX3_readItem kmX3_31 hr.o (c_X3_readItem0 l hr a z25 hT0 ha (by omega)) (by decide) (Nat.zero_le _) (Nat.zero_le _) (Nat.le_of_ble_eq_true rfl) (fun z40 q40 => ?_)
            refine x_if_ne (tgt := 48) C dX3_readInto_43 (by decide) (fun c43 => absurd c43 (by omega)) (fun c43 => ?_)
            refine x_iload_n C dX3_readInto_46 rfl ?_
            refine x_iret C hQ dX3_readInto_47 (Nat.le_refl _) (Nat.le_refl _) ?_
            refine ⟨rfl, _, rfl, hfin _ w hf ⟨j1, T2, hr⟩ ?_ (fun h9 => by omega) hF.any⟩
            rw [← hres, rdT, if_neg hRne, hcut]
            rfl
          | cons c0 body =>
            have hT0 : tx ++ j1 = P ++ (c0 :: (body ++ (59 :: (R3 ++ j1)))) := by rw [htx, hR]; simp
            simp only [List.length_cons] at hz hl3
            refine x_aload_n C dX3_readInto_35 rfl ?_
            refine x_iload_n C dX3_readInto_36 rfl ?_
            refine x_iload C dX3_readInto_37 rfl ?_
            refine x_aload_n C dX3_readInto_39 rfl ?_
            refine y_i3 C dX3_readInto_40 kyX3_readItem knX3_readItem kmX3_31 hr.o (c_X3_readItem l hr hd hF a z25 hT0 ha (by omega) hfst) (by decide) (Nat.zero_le _) (Nat.zero_le _) (Nat.le_of_ble_eq_true rfl) (fun z40 w40 q40 => ?_)
            obtain ⟨w1, ⟨T8, hr8⟩, hf1, hf9, hP9⟩ := q40
            have hTT : ∃ T9, rT w40 h tx.length (tx ++ j1) T9 := ⟨T8, hr8.fr hf9 (by omega)⟩
            have hf3 : fr2 w0 w40 h u := fun x h1 h2 => ((hf9 x h2).trans (hf1 x h1)).trans (hf x h1 h2)
            refine x_if_ne (tgt := 48) C dX3_readInto_43 (by decide) (fun c43 => ?_) (fun c43 => ?_)
            · refine x_iload C dX3_readInto_48 rfl ?_
              refine x_iconst C dX3_readInto_50 ⟨by decide, by decide⟩ ?_
              refine x_iadd C dX3_readInto_51 (by first | (unfold iR; omega) | exact ⟨by omega, by omega⟩) ?_
              refine s_ist5_2 C dX3_readInto_52 rfl ?_
              refine s_inc5_3 C dX3_readInto_53 rfl (by first | (unfold iR; omega) | exact ⟨by omega, by omega⟩) ?_
              refine x_goto (tgt := 8) C dX3_readInto_56 (by decide) ?_
              rcases hP9 with ⟨h5, h6, h7⟩ | ⟨F9, h5, h6, h7⟩
              · omega
              · obtain ⟨T9, hr9⟩ : ∃ T9, rT w40 h tx.length (tx ++ j1) T9 := hTT
                refine ih (P ++ (c0 :: body) ++ [59]) R3 (z25 + 1) (it + 1) _ F9 T9 w40 (by omega) (by rw [htx, hR]; simp) (by simp; omega) (by omega) hr9 hf3 h7 (fun h9 => by omega) ?_
                rw [← hres]
                conv => rhs; rw [rdT, if_neg hRne, hcut]
                simp only [h5]
                congr 1
                simp; omega
            · refine x_iload_n C dX3_readInto_46 rfl ?_
              refine x_iret C hQ dX3_readInto_47 (Nat.le_refl _) (Nat.le_refl _) ?_
              rcases hP9 with ⟨h5, h6, h7⟩ | ⟨F9, h5, h6, h7⟩
              · obtain ⟨T9, hr9⟩ : ∃ T9, rT w40 h tx.length (tx ++ j1) T9 := hTT
                refine ⟨rfl, _, rfl, hfin _ w40 hf3 ⟨j1, T9, hr9⟩ ?_ (fun h9 => by omega) h7⟩
                rw [← hres, rdT, if_neg hRne, hcut]
                simp only [h5]
              · omega

set_option maxHeartbeats 1000000 in
set_option maxRecDepth 100000 in
theorem c_X3_readInto (l : Launch) {w : mW} {h u : Nat} {tx : List Int} (hS : isTx w h tx) (hd : h + 2 < u ∨ u + 6 < h) (hU : anySh w u) : Ci l yX3_readInto cX3_readInto 5 (some .int) 4 [vr h, vr u] w (fun z w' => fr2 w w' h u ∧ isTx w' h tx ∧ z = (rdT (tx.length + 1) 0 tx F00).1 ∧ (z = -4 → isF w' u (rdT (tx.length + 1) 0 tx F00).2) ∧ anySh w' u) := by
  refine Ci.of (ml := [some (vr h), some (vr u), none, none, none]) kyX3_readInto rfl (Nat.le_of_ble_eq_true rfl) rfl ?_
  intro t n C hQ
  have hlen := hS.len
  obtain ⟨j1, T2, hr⟩ := hS
  obtain ⟨_, _, _, _, _, _, _, _, _, _, _, _, _, hs⟩ := hU
  refine x_aload_n C dX3_readInto_0 rfl ?_
  refine y_v0 C dX3_readInto_1 kyX2_clear knX2_clear kmX3_22 hs.o (c_X2_clear l hs) (by decide) (Nat.zero_le _) (Nat.zero_le _) (Nat.le_of_ble_eq_true rfl) (fun w1 q1 => ?_)
  obtain ⟨hF, hf9⟩ := q1
  have hr := hr.fr hf9 (by omega)
  refine x_iconst C dX3_readInto_4 ⟨by decide, by decide⟩ ?_
  refine s_ist5_2 C dX3_readInto_5 rfl ?_
  refine x_iconst C dX3_readInto_6 ⟨by decide, by decide⟩ ?_
  refine s_ist5_3 C dX3_readInto_7 rfl ?_
  exact lp_X3_readInto hd C hQ (fun z w9 h1 h2 h3 h4 h5 => ⟨h1, h2, h3, h4, h5⟩) (tx.length + 1) [] tx 0 0 none F00 T2 w1 (by omega) rfl rfl (by omega) hr (fun x h1 h2 => hf9 x h2) hF (fun _ => ⟨rfl, rfl⟩) rfl
