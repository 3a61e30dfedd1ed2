/-! ===== the reference: what would be ===== -/
def bN (p : Nat → Bool) : Nat → Nat → Int
  | _, 0 => -4
  | i, m + 1 => if p i = true then (i : Int) else bN p (i + 1) m
theorem bN_f (p : Nat → Bool) : ∀ (m i : Nat), fN p i = -4 → fN p (i + m) = bN p i m
  | 0, i, h => h
  | m + 1, i, h => by
    rw [bN, show i + (m + 1) = i + 1 + m by omega]
    by_cases hp : p i = true
    · have h8 : fN p (i + 1) = (i : Int) := by rw [fN, if_pos ⟨h, hp⟩]
      rw [if_pos hp, fN_keep p (m := i + 1) (by rw [h8]; omega) m, h8]
    · rw [if_neg hp]
      exact bN_f p m (i + 1) (by rw [fN, if_neg (fun h9 => hp h9.2), h])
def fndN (F : mF) (p : Int) (i : Nat) : Int := if bN (fitP F p) i (17 - i) = -4 then -4 else 4 + bN (fitP F p) i (17 - i)
theorem fnd_0 (F : mF) {p : Int} (hp : 1 ≤ p ∧ p ≤ 40) : fndN F p 0 = q_fit F p := by
  have h := bN_f (fitP F p) 17 0 rfl
  rw [q_fit, if_neg (by omega), fndN]
  rw [Nat.zero_add] at h
  rw [h]
theorem fnd_s (F : mF) (p : Int) {i : Nat} (hi : i + 1 ≤ 17) : fndN F p i = if rowsF (widW F (4 + (i : Int))) ≤ p then 4 + (i : Int) else fndN F p (i + 1) := by
  unfold fndN
  rw [show 17 - i = (17 - (i + 1)) + 1 by omega, bN]
  by_cases h : rowsF (widW F (4 + (i : Int))) ≤ p
  · rw [if_pos h, if_pos (show fitP F p i = true from decide_eq_true h), if_neg (by omega)]
  · rw [if_neg h, if_neg (show ¬ fitP F p i = true from fun h9 => h (of_decide_eq_true h9))]
theorem turn2 {fo : List (Int × Int × Int)} {p : Int} (hp : 0 ≤ p ∧ p < fo.length) (hb : ∀ f ∈ fo, f.2.2 = 0 ∨ f.2.2 = 1) : turnF (turnF fo p) p = fo := by
  obtain ⟨P, x, R, rfl, hP⟩ := spl fo p.toNat (by omega)
  have hx := hb x (by simp)
  have e1 : turnF (P ++ x :: R) p = P ++ flip x :: R := by rw [turnF, if_pos hp, ← hP, modify_at]
  rw [e1, turnF, if_pos (by simp at hp ⊢; omega), ← hP, modify_at]
  have ef : flip (flip x) = x := by
    unfold flip
    simp only
    rcases hx with h | h
    · rw [h]; simp; exact Prod.ext rfl (Prod.ext rfl h.symm)
    · rw [h]; simp; exact Prod.ext rfl (Prod.ext rfl h.symm)
  rw [ef]

set_option maxHeartbeats 1000000 in
set_option maxRecDepth 100000 in
theorem lp_X5_fit {t : TX} {l : Launch} {n0 : Nat} {w0 : mW} {h : Nat} {F : mF} {um sm wp wr ac sz ra rn : Int} {M14 M15 M16 M17 M18 M19 M20 M21 M22 M23 : List Int} (hW : wfF F) {p : Int} (hp : 1 ≤ p ∧ p ≤ 40) (C : Cb t l cX5_fit RX5 5 (some .int) 5 0 0) {Q : Int → mW → Prop} (hQ : RQ t 0 0 (fun r n' w' => n' = n0 ∧ ∃ z : Int, r = some (vi z) ∧ Q z w')) (hq : ∀ (z : Int) (w : mW), z = q_fit F p → isN w h F um sm wp wr ac sz ra rn M14 M15 M16 M17 M18 M19 M20 M21 M22 M23 → frR w0 w h (h + 23) → Q z w) : ∀ (i : Nat) (v u f : Int) (w : mW), i ≤ 17 → v = 3 + (i : Int) → isN w h (widW F u) um sm wp wr ac sz ra rn M14 M15 M16 M17 M18 M19 M20 M21 M22 M23 → frR w0 w h (h + 23) → f = fndN F p i → J t 0 0 24 [some (vr h), some (vi p), some (vi F.2.2.1), some (vi f), some (vi v)] [] n0 w := by
  intro i
  induction i with
  | zero =>
    intro v u f w hi hv hN hf hff
    have hN2 := hN
    obtain ⟨j1, j2, j3, j4, j5, j6, pi, lr, lc, M7, M8, M9, M10, M11, M12, M13, hr⟩ := hN
    have hr : rM w h F.1.1.length F.1.2.1.length F.1.2.2.length F.2.1 u F.2.2.2.1 F.2.2.2.2 pi lr lc um sm wp wr ac sz ra rn (F.1.1 ++ j1) (F.1.2.1.map (fun f => f.1) ++ j2) (F.1.2.1.map (fun f => f.2.1) ++ j3) (F.1.2.1.map (fun f => f.2.2) ++ j4) (F.1.2.2.map (fun q => q.1) ++ j5) (F.1.2.2.map (fun q => q.2) ++ j6) M7 M8 M9 M10 M11 M12 M13 M14 M15 M16 M17 M18 M19 M20 M21 M22 M23 := hr
    refine x_iload C dX5_fit_24 rfl ?_
    refine x_iconst C dX5_fit_26 ⟨by decide, by decide⟩ ?_
    refine x_icmp_lt (tgt := 57) C dX5_fit_27 (by decide) (fun c27 => ?_) (fun c27 => absurd c27 (by omega))
    refine x_aload_n C dX5_fit_57 rfl ?_
    refine x_iload_n C dX5_fit_58 rfl ?_
    refine x_put C dX5_fit_59 kfX5_32 kw_5_10 rfl rfl hr.o (Nat.le_of_ble_eq_true rfl) ?_
    refine ab_M_wi hr hf (fun w hr hf => ?_)
    refine x_iload_n C dX5_fit_62 rfl ?_
    refine x_iret C hQ dX5_fit_63 (Nat.le_refl _) (Nat.le_refl _) ?_
    exact ⟨rfl, _, rfl, hq _ _ (by rw [hff, fnd_0 F hp]) ⟨j1, j2, j3, j4, j5, j6, pi, lr, lc, M7, M8, M9, M10, M11, M12, M13, hr⟩ hf⟩
  | succ i ih =>
    intro v u f w hi hv hN hf hff
    have hs9 := fnd_s F p hi
    have hN2 := hN
    obtain ⟨j1, j2, j3, j4, j5, j6, pi, lr, lc, M7, M8, M9, M10, M11, M12, M13, hr⟩ := hN
    have hr : rM w h F.1.1.length F.1.2.1.length F.1.2.2.length F.2.1 u F.2.2.2.1 F.2.2.2.2 pi lr lc um sm wp wr ac sz ra rn (F.1.1 ++ j1) (F.1.2.1.map (fun f => f.1) ++ j2) (F.1.2.1.map (fun f => f.2.1) ++ j3) (F.1.2.1.map (fun f => f.2.2) ++ j4) (F.1.2.2.map (fun q => q.1) ++ j5) (F.1.2.2.map (fun q => q.2) ++ j6) M7 M8 M9 M10 M11 M12 M13 M14 M15 M16 M17 M18 M19 M20 M21 M22 M23 := hr
    refine x_iload C dX5_fit_24 rfl ?_
    refine x_iconst C dX5_fit_26 ⟨by decide, by decide⟩ ?_
    refine x_icmp_lt (tgt := 57) C dX5_fit_27 (by decide) (fun c27 => absurd c27 (by omega)) (fun c27 => ?_)
    refine x_aload_n C dX5_fit_30 rfl ?_
    refine x_iload C dX5_fit_31 rfl ?_
    refine x_put C dX5_fit_33 kfX5_32 kw_5_10 rfl rfl hr.o (Nat.le_of_ble_eq_true rfl) ?_
    refine ab_M_wi hr hf (fun w hr hf => ?_)
    have hN : isN w h (widW F v) um sm wp wr ac sz ra rn M14 M15 M16 M17 M18 M19 M20 M21 M22 M23 := ⟨j1, j2, j3, j4, j5, j6, pi, lr, lc, M7, M8, M9, M10, M11, M12, M13, hr⟩
    have hwt := (wfF_iff F).mp hW
    have hwg : wfF (widW F v) := (wfF_iff _).mpr ⟨hwt.1, hwt.2.1, (by show 4 ≤ v ∧ v ≤ 20; omega), hwt.2.2.2⟩
    refine x_aload_n C dX5_fit_36 rfl ?_
    refine y_i0 C dX5_fit_37 kyX5_rows knX5_rows kmX5_241 hr.o (c_X5_rows l hN hwg) (by decide) (Nat.zero_le _) (Nat.zero_le _) (Nat.le_of_ble_eq_true rfl) (fun z37 w37 q37 => ?_)
    obtain ⟨q37a, hNs, hf9⟩ := q37
    have hf := hf.tr hf9
    rw [show v = 4 + (i : Int) by omega] at q37a
    refine x_iload_n C dX5_fit_40 rfl ?_
    refine x_icmp_gt (tgt := 49) C dX5_fit_41 (by decide) (fun c41 => ?_) (fun c41 => ?_)
    · refine x_iload_n C dX5_fit_49 rfl ?_
      refine s_ist5_3 C dX5_fit_50 rfl ?_
      refine s_inc5_4 C dX5_fit_51 rfl (by first | (unfold iR; omega) | exact ⟨by omega, by omega⟩) ?_
      refine x_goto (tgt := 24) C dX5_fit_54 (by decide) ?_
      exact ih _ v _ _ (by omega) (by omega) hNs.n hf (by rw [hs9, if_neg (by omega)]; exact hff)
    · refine x_iload C dX5_fit_44 rfl ?_
      refine x_goto (tgt := 50) C dX5_fit_46 (by decide) ?_
      refine s_ist5_3 C dX5_fit_50 rfl ?_
      refine s_inc5_4 C dX5_fit_51 rfl (by first | (unfold iR; omega) | exact ⟨by omega, by omega⟩) ?_
      refine x_goto (tgt := 24) C dX5_fit_54 (by decide) ?_
      exact ih _ v _ _ (by omega) (by omega) hNs.n hf (by rw [hs9, if_pos (by omega)]; omega)

set_option maxHeartbeats 1000000 in
set_option maxRecDepth 100000 in
theorem c_X5_fit (l : Launch) {w : mW} {h : Nat} {D : mD} (hM : isM w h D) (hD : wfD D) (p : Int) : Ci l yX5_fit cX5_fit 5 (some .int) 5 [vr h, vi p] w (fun z w' => z = q_fit D.F p ∧ isM w' h D ∧ frR w w' h (h + 23)) := by
  refine Ci.of (ml := [some (vr h), some (vi p), none, none, none]) kyX5_fit rfl (Nat.le_of_ble_eq_true rfl) rfl ?_
  intro t n C hQ
  have hM2 := hM
  obtain ⟨wp, wr, ac, ra, rn, M14, M15, M16, M17, M18, M19, M20, M21, M22, M23, hN, hU, hK, hlU, hlK, ⟨jt, ht⟩, hO⟩ := hM
  have hfA : frR w w h (h + 23) := frR.rf
  have hN2 := hN
  obtain ⟨j1, j2, j3, j4, j5, j6, pi, lr, lc, M7, M8, M9, M10, M11, M12, M13, hr⟩ := hN
  obtain ⟨f1, f2, f3, f4, f5, f6, f7, f8, f9, f10, f11, f12⟩ := id hD.2.1
  have hw : ∀ f ∈ D.F.1.2.1, (0 ≤ f.1 ∧ f.1 ≤ 100) ∧ (0 ≤ f.2.1 ∧ f.2.1 ≤ 100) ∧ (f.2.2 = 0 ∨ f.2.2 = 1) := fun f hf9 => by have := f4 f hf9; omega
  have hsm := hD.2.1.sm
  have hwT := (wfF_iff D.F).mp hD.2.1
  refine x_iload_n C dX5_fit_0 rfl ?_
  refine x_iconst C dX5_fit_1 ⟨by decide, by decide⟩ ?_
  refine x_bipush C dX5_fit_2 ⟨by decide, by decide⟩ ?_
  refine z_p3 C dX5_fit_4 kyX5_in ksX5_in kmX5_103 (c_X5_in l p 1 40) (by decide) (Nat.zero_le _) (Nat.zero_le _) (Nat.le_of_ble_eq_true rfl) (fun z4 q4 => ?_)
  refine x_if_ne (tgt := 12) C dX5_fit_7 (by decide) (fun c7 => ?_) (fun c7 => ?_)
  · refine x_aload_n C dX5_fit_12 rfl ?_
    refine x_get C dX5_fit_13 kfX5_32 hr.o rfl ?_
    refine s_ist5_2 C dX5_fit_16 rfl ?_
    refine x_bipush C dX5_fit_17 ⟨by decide, by decide⟩ ?_
    refine s_ist5_3 C dX5_fit_19 rfl ?_
    refine x_bipush C dX5_fit_20 ⟨by decide, by decide⟩ ?_
    refine s_is5_4 C dX5_fit_22 rfl ?_
    exact lp_X5_fit hD.2.1 (by omega) C hQ (fun z w hz hN2 hfA => ⟨hz, ⟨_, _, _, _, _, _, _, _, _, _, _, _, _, _, _, hN2, hU, hK, hlU, hlK, ⟨jt, ht⟩, hO⟩, hfA⟩) 17 _ D.F.2.2.1 _ _ (Nat.le_refl _) rfl hN2 frR.rf rfl
  · refine x_iconst C dX5_fit_10 ⟨by decide, by decide⟩ ?_
    refine x_iret C hQ dX5_fit_11 (Nat.le_refl _) (Nat.le_refl _) ?_
    exact ⟨rfl, _, rfl, by rw [q_fit, if_pos (by omega)], hM2, frR.rf⟩

theorem sav_c (F : mF) (hr : ∀ m : Nat, rowsF (turF F m) ≤ 100) : ∀ m : Nat, ((savN F m).1 = -4 ∧ (savN F m).2 = -4) ∨ (0 ≤ (savN F m).1 ∧ (savN F m).2 ≤ 100)
  | 0 => Or.inl ⟨rfl, rfl⟩
  | m + 1 => by
    rw [savN]
    split
    · exact sav_c F hr m
    · split
      · exact Or.inr ⟨by simp, hr m⟩
      · exact sav_c F hr m

set_option maxHeartbeats 1000000 in
set_option maxRecDepth 100000 in
theorem lp_X5_saves {t : TX} {l : Launch} {n0 : Nat} {w0 : mW} {h : Nat} {F : mF} {um sm wp wr ac sz ra rn : Int} {M14 M15 M16 M17 M18 M19 M20 M21 M22 M23 : List Int} (hW : wfF F) {p : Int} (hp : p = 0 ∨ p = 1) (C : Cb t l cX5_saves RX5 6 (some .int) 5 0 0) {Q : Int → mW → Prop} (hQ : RQ t 0 0 (fun r n' w' => n' = n0 ∧ ∃ z : Int, r = some (vi z) ∧ Q z w')) (hq : ∀ (z : Int) (w : mW), z = q_saves F p → isN w h F um sm wp wr ac sz ra rn M14 M15 M16 M17 M18 M19 M20 M21 M22 M23 → frR w0 w h (h + 23) → Q z w) : ∀ (m i : Nat) (be fe f : Int) (x5 : Option mV) (w : mW), f = (i : Int) → i + m = F.1.2.1.length → be = (savN F i).1 → (be = -4 → fe = 1048576) → (be ≠ -4 → fe = (savN F i).2) → isN w h F um sm wp wr ac sz ra rn M14 M15 M16 M17 M18 M19 M20 M21 M22 M23 → frR w0 w h (h + 23) → J t 0 0 20 [some (vr h), some (vi p), some (vi be), some (vi fe), some (vi f), x5] [] n0 w := by
  obtain ⟨f1, f2, f3, f4, f5, f6, f7, f8, f9, f10, f11, f12⟩ := id hW
  have hw : ∀ f ∈ F.1.2.1, (0 ≤ f.1 ∧ f.1 ≤ 100) ∧ (0 ≤ f.2.1 ∧ f.2.1 ≤ 100) ∧ (f.2.2 = 0 ∨ f.2.2 = 1) := fun f hf9 => by have := f4 f hf9; omega
  have hwt := (wfF_iff F).mp hW
  have hwg : ∀ j : Nat, wfF (turF F j) := fun j => (wfF_iff _).mpr ⟨wf_turn hwt.1 j, hwt.2⟩
  have hrb : ∀ j : Nat, rowsF (turF F j) ≤ 100 := fun j => by have := scr_len (hwg j); unfold rowsF; omega
  have hsc := sav_c F hrb
  intro m
  induction m with
  | zero =>
    intro i be fe f x5 w hv hm hb h4 h5 hN hf
    have hsi := hsc i
    have hN2 := hN
    obtain ⟨j1, j2, j3, j4, j5, j6, pi, lr, lc, M7, M8, M9, M10, M11, M12, M13, hr⟩ := hN
    refine x_iload C dX5_saves_20 rfl ?_
    refine x_aload_n C dX5_saves_22 rfl ?_
    refine x_get C dX5_saves_23 kfX5_107 hr.o rfl ?_
    refine x_icmp_ge (tgt := 93) C dX5_saves_26 (by decide) (fun c26 => ?_) (fun c26 => absurd c26 (by omega))
    refine x_iload_n C dX5_saves_93 rfl ?_
    refine x_bipush C dX5_saves_94 ⟨by decide, by decide⟩ ?_
    refine x_icmp_eq (tgt := 103) C dX5_saves_96 (by decide) (fun c96 => ?_) (fun c96 => ?_)
    · refine x_iload_n C dX5_saves_103 rfl ?_
      refine x_goto (tgt := 108) C dX5_saves_104 (by decide) ?_
      refine x_iret C hQ dX5_saves_108 (Nat.le_refl _) (Nat.le_refl _) ?_
      exact ⟨rfl, _, rfl, hq _ _ (by rcases hp with h9 | h9
                                     · rw [q_saves, if_pos h9, show F.1.2.1.length = i by omega]; omega
                                     · rw [q_saves, if_neg (by omega), if_pos h9, show F.1.2.1.length = i by omega]; omega) hN2 hf⟩
    · refine x_iload_n C dX5_saves_99 rfl ?_
      refine x_if_ne (tgt := 107) C dX5_saves_100 (by decide) (fun c100 => ?_) (fun c100 => ?_)
      · refine x_iload_n C dX5_saves_107 rfl ?_
        refine x_iret C hQ dX5_saves_108 (Nat.le_refl _) (Nat.le_refl _) ?_
        exact ⟨rfl, _, rfl, hq _ _ (by rw [q_saves, if_neg (by omega), if_pos (by omega), show F.1.2.1.length = i by omega]; omega) hN2 hf⟩
      · refine x_iload_n C dX5_saves_103 rfl ?_
        refine x_goto (tgt := 108) C dX5_saves_104 (by decide) ?_
        refine x_iret C hQ dX5_saves_108 (Nat.le_refl _) (Nat.le_refl _) ?_
        exact ⟨rfl, _, rfl, hq _ _ (by rw [q_saves, if_pos (by omega), show F.1.2.1.length = i by omega]; omega) hN2 hf⟩
  | succ m ih =>
    intro i be fe f x5 w hv hm hb h4 h5 hN hf
    have hsi := hsc i
    have hN2 := hN
    obtain ⟨j1, j2, j3, j4, j5, j6, pi, lr, lc, M7, M8, M9, M10, M11, M12, M13, hr⟩ := hN
    have l4 := hr.l4
    simp only [List.length_append, List.length_map] at l4
    obtain ⟨u1, u2, u3, u4, u5, u6⟩ := turn_maps (p := f) (fo := F.1.2.1) (by omega) (fun g hg => (hw g hg).2.2) j4
    have e9 : (F.1.2.1.map (fun q => q.2.2)).getD f.toNat 0 = (F.1.2.1.map (fun q => q.2.2)).getD i 0 := by rw [hv, Int.toNat_natCast]
    refine x_iload C dX5_saves_20 rfl ?_
    refine x_aload_n C dX5_saves_22 rfl ?_
    refine x_get C dX5_saves_23 kfX5_107 hr.o rfl ?_
    refine x_icmp_ge (tgt := 93) C dX5_saves_26 (by decide) (fun c26 => absurd c26 (by omega)) (fun c26 => ?_)
    refine x_aload_n C dX5_saves_29 rfl ?_
    refine x_get C dX5_saves_30 kfX5_19 hr.o rfl ?_
    refine x_iload C dX5_saves_33 rfl ?_
    refine x_iald C dX5_saves_35 hr.a4 (by omega) (by rw [hr.l4]; omega) ?_
    refine x_if_ne (tgt := 87) C dX5_saves_36 (by decide) (fun c36 => ?_) (fun c36 => ?_)
    · refine s_inc6_4 C dX5_saves_87 rfl (by first | (unfold iR; omega) | exact ⟨by omega, by omega⟩) ?_
      refine x_goto (tgt := 20) C dX5_saves_90 (by decide) ?_
      exact ih (i + 1) _ _ _ _ _ (by omega) (by omega) (by rw [savN, if_pos (by omega)]; exact hb) h4 (by rw [savN, if_pos (by omega)]; exact h5) hN2 hf
    · refine x_aload_n C dX5_saves_39 rfl ?_
      refine x_get C dX5_saves_40 kfX5_19 hr.o rfl ?_
      refine x_iload C dX5_saves_43 rfl ?_
      refine x_iconst C dX5_saves_45 ⟨by decide, by decide⟩ ?_
      refine x_iast C dX5_saves_46 hr.a4 (by omega) (by rw [hr.l4]; omega) ?_
      refine ab_M_M4 hr hf (by rw [List.length_set]; exact hr.l4) (fun w hr hf => ?_)
      have e1 : (F.1.2.1.map (fun f => f.2.2) ++ j4).getD f.toNat 0 = 0 := by omega
      rw [e1] at u3
      rw [show (1 : Int) - 0 = 1 by decide] at u3
      rw [u3, ← u1, ← u2, ← u4] at hr
      have hN3 : isN w h (turF F f) um sm wp wr ac sz ra rn M14 M15 M16 M17 M18 M19 M20 M21 M22 M23 := ⟨j1, j2, j3, j4, j5, j6, pi, lr, lc, M7, M8, M9, M10, M11, M12, M13, hr⟩
      refine x_aload_n C dX5_saves_47 rfl ?_
      refine y_i0 C dX5_saves_48 kyX5_rows knX5_rows kmX5_241 hr.o (c_X5_rows l hN3 (by rw [hv]; exact hwg i)) (by decide) (Nat.zero_le _) (Nat.zero_le _) (Nat.le_of_ble_eq_true rfl) (fun z48 w48 q48 => ?_)
      obtain ⟨q48a, hNs, hf9⟩ := q48
      have hf := hf.tr hf9
      rw [hv] at q48a
      have hrb9 := hrb i
      obtain ⟨j1, j2, j3, j4, j5, j6, J7, J8, J9, J10, J11, J12, J13, hr⟩ := id hNs
      have l4 := hr.l4
      have hr : rM w48 h F.1.1.length (turnF F.1.2.1 f).length F.1.2.2.length F.2.1 F.2.2.1 F.2.2.2.1 F.2.2.2.2 (scr (turF F f)).1.length (((scr (turF F f)).2.length : Int) - 1) (lastC (scr (turF F f)).2) um sm wp wr ac sz ra rn (F.1.1 ++ j1) ((turnF F.1.2.1 f).map (fun f => f.1) ++ j2) ((turnF F.1.2.1 f).map (fun f => f.2.1) ++ j3) ((turnF F.1.2.1 f).map (fun f => f.2.2) ++ j4) (F.1.2.2.map (fun q => q.1) ++ j5) (F.1.2.2.map (fun q => q.2) ++ j6) ((scr (turF F f)).1.map (fun q => q.1) ++ J7) ((scr (turF F f)).1.map (fun q => q.2.1) ++ J8) ((scr (turF F f)).1.map (fun q => q.2.2.1) ++ J9) ((scr (turF F f)).1.map (fun q => q.2.2.2.1) ++ J10) ((scr (turF F f)).1.map (fun q => q.2.2.2.2) ++ J11) ((scr (turF F f)).2.map (fun q => q.1) ++ J12) ((scr (turF F f)).2.map (fun q => q.2) ++ J13) M14 M15 M16 M17 M18 M19 M20 M21 M22 M23 := hr
      have l4 : ((turnF F.1.2.1 f).map (fun f => f.2.2) ++ j4).length = 5 := l4
      simp only [List.length_append, List.length_map] at l4
      refine s_is6_5 C dX5_saves_51 rfl ?_
      refine x_aload_n C dX5_saves_53 rfl ?_
      refine x_get C dX5_saves_54 kfX5_19 hr.o rfl ?_
      refine x_iload C dX5_saves_57 rfl ?_
      refine x_iconst C dX5_saves_59 ⟨by decide, by decide⟩ ?_
      refine x_iast C dX5_saves_60 hr.a4 (by omega) (by rw [hr.l4]; omega) ?_
      refine ab_M_M4 hr hf (by rw [List.length_set]; exact hr.l4) (fun w hr hf => ?_)
      obtain ⟨u1, u2, u3, u4, u5, u6⟩ := turn_maps (p := f) (fo := turnF F.1.2.1 f) (by omega) (fun g hg => by
        have hwf9 : wfF (turF F f) := by rw [hv]; exact hwg i
        exact (hwf9.2.2.2.1 g hg).2.2.2) j4
      rw [turn2 (by omega) (fun g hg => (hw g hg).2.2)] at u1 u2 u3 u4
      have hr : rM w h F.1.1.length (turnF F.1.2.1 f).length F.1.2.2.length F.2.1 F.2.2.1 F.2.2.2.1 F.2.2.2.2 (scr (turF F f)).1.length (((scr (turF F f)).2.length : Int) - 1) (lastC (scr (turF F f)).2) um sm wp wr ac sz ra rn (F.1.1 ++ j1) ((turnF F.1.2.1 f).map (fun f => f.1) ++ j2) ((turnF F.1.2.1 f).map (fun f => f.2.1) ++ j3) (((turnF F.1.2.1 f).map (fun f => f.2.2) ++ j4).set f.toNat 0) (F.1.2.2.map (fun q => q.1) ++ j5) (F.1.2.2.map (fun q => q.2) ++ j6) ((scr (turF F f)).1.map (fun q => q.1) ++ J7) ((scr (turF F f)).1.map (fun q => q.2.1) ++ J8) ((scr (turF F f)).1.map (fun q => q.2.2.1) ++ J9) ((scr (turF F f)).1.map (fun q => q.2.2.2.1) ++ J10) ((scr (turF F f)).1.map (fun q => q.2.2.2.2) ++ J11) ((scr (turF F f)).2.map (fun q => q.1) ++ J12) ((scr (turF F f)).2.map (fun q => q.2) ++ J13) M14 M15 M16 M17 M18 M19 M20 M21 M22 M23 := hr
      have e8 : (1 : Int) - ((turnF F.1.2.1 f).map (fun f => f.2.2) ++ j4).getD f.toNat 0 = 0 := by
        have h9 := (turnF_at (p := f) (fo := F.1.2.1) (by omega) (fun g hg => (hw g hg).2.2)).1
        omega
      rw [e8] at u3
      rw [u3, ← u1, ← u2, ← u4] at hr
      have hN2 : isN w h F um sm wp wr ac sz ra rn M14 M15 M16 M17 M18 M19 M20 M21 M22 M23 := ⟨j1, j2, j3, j4, j5, j6, _, _, _, _, _, _, _, _, _, _, hr⟩
      refine x_iload C dX5_saves_61 rfl ?_
      refine x_iload_n C dX5_saves_63 rfl ?_
      refine x_icmp_ge (tgt := 72) C dX5_saves_64 (by decide) (fun c64 => ?_) (fun c64 => ?_)
      · refine x_iload_n C dX5_saves_72 rfl ?_
        refine s_ist6_2 C dX5_saves_73 rfl ?_
        refine x_iload C dX5_saves_74 rfl ?_
        refine x_iload_n C dX5_saves_76 rfl ?_
        refine x_icmp_ge (tgt := 85) C dX5_saves_77 (by decide) (fun c77 => ?_) (fun c77 => ?_)
        · refine x_iload_n C dX5_saves_85 rfl ?_
          refine s_ist6_3 C dX5_saves_86 rfl ?_
          refine s_inc6_4 C dX5_saves_87 rfl (by first | (unfold iR; omega) | exact ⟨by omega, by omega⟩) ?_
          refine x_goto (tgt := 20) C dX5_saves_90 (by decide) ?_
          exact ih (i + 1) _ _ _ _ _ (by omega) (by omega) (by rw [savN, if_neg (by omega), if_neg (by omega)]; exact hb) h4 (by rw [savN, if_neg (by omega), if_neg (by omega)]; exact h5) hN2 hf
        · refine x_iload C dX5_saves_80 rfl ?_
          refine x_goto (tgt := 86) C dX5_saves_82 (by decide) ?_
          refine s_ist6_3 C dX5_saves_86 rfl ?_
          refine s_inc6_4 C dX5_saves_87 rfl (by first | (unfold iR; omega) | exact ⟨by omega, by omega⟩) ?_
          refine x_goto (tgt := 20) C dX5_saves_90 (by decide) ?_
          omega
      · refine x_iload C dX5_saves_67 rfl ?_
        refine x_goto (tgt := 73) C dX5_saves_69 (by decide) ?_
        refine s_ist6_2 C dX5_saves_73 rfl ?_
        refine x_iload C dX5_saves_74 rfl ?_
        refine x_iload_n C dX5_saves_76 rfl ?_
        refine x_icmp_ge (tgt := 85) C dX5_saves_77 (by decide) (fun c77 => ?_) (fun c77 => ?_)
        · refine x_iload_n C dX5_saves_85 rfl ?_
          refine s_ist6_3 C dX5_saves_86 rfl ?_
          refine s_inc6_4 C dX5_saves_87 rfl (by first | (unfold iR; omega) | exact ⟨by omega, by omega⟩) ?_
          refine x_goto (tgt := 20) C dX5_saves_90 (by decide) ?_
          omega
        · refine x_iload C dX5_saves_80 rfl ?_
          refine x_goto (tgt := 86) C dX5_saves_82 (by decide) ?_
          refine s_ist6_3 C dX5_saves_86 rfl ?_
          refine s_inc6_4 C dX5_saves_87 rfl (by first | (unfold iR; omega) | exact ⟨by omega, by omega⟩) ?_
          refine x_goto (tgt := 20) C dX5_saves_90 (by decide) ?_
          exact ih (i + 1) _ _ _ _ _ (by omega) (by omega) (by rw [savN, if_neg (by omega), if_pos (by omega)]; exact hv) (fun h9 => by omega) (fun h9 => by rw [savN, if_neg (by omega), if_pos (by omega)]; exact q48a) hN2 hf

set_option maxHeartbeats 1000000 in
set_option maxRecDepth 100000 in
theorem c_X5_saves (l : Launch) {w : mW} {h : Nat} {D : mD} (hM : isM w h D) (hD : wfD D) (p : Int) : Ci l yX5_saves cX5_saves 6 (some .int) 5 [vr h, vi p] w (fun z w' => z = q_saves D.F p ∧ isM w' h D ∧ frR w w' h (h + 23)) := by
  refine Ci.of (ml := [some (vr h), some (vi p), none, none, none, none]) kyX5_saves rfl (Nat.le_of_ble_eq_true rfl) rfl ?_
  intro t n C hQ
  have hM2 := hM
  obtain ⟨wp, wr, ac, ra, rn, M14, M15, M16, M17, M18, M19, M20, M21, M22, M23, hN, hU, hK, hlU, hlK, ⟨jt, ht⟩, hO⟩ := hM
  have hfA : frR w w h (h + 23) := frR.rf
  have hN2 := hN
  obtain ⟨j1, j2, j3, j4, j5, j6, pi, lr, lc, M7, M8, M9, M10, M11, M12, M13, hr⟩ := hN
  obtain ⟨f1, f2, f3, f4, f5, f6, f7, f8, f9, f10, f11, f12⟩ := id hD.2.1
  have hw : ∀ f ∈ D.F.1.2.1, (0 ≤ f.1 ∧ f.1 ≤ 100) ∧ (0 ≤ f.2.1 ∧ f.2.1 ≤ 100) ∧ (f.2.2 = 0 ∨ f.2.2 = 1) := fun f hf9 => by have := f4 f hf9; omega
  have hsm := hD.2.1.sm
  have hwT := (wfF_iff D.F).mp hD.2.1
  refine x_iload_n C dX5_saves_0 rfl ?_
  refine x_iconst C dX5_saves_1 ⟨by decide, by decide⟩ ?_
  refine x_iconst C dX5_saves_2 ⟨by decide, by decide⟩ ?_
  refine z_p3 C dX5_saves_3 kyX5_in ksX5_in kmX5_103 (c_X5_in l p 0 1) (by decide) (Nat.zero_le _) (Nat.zero_le _) (Nat.le_of_ble_eq_true rfl) (fun z3 q3 => ?_)
  refine x_if_ne (tgt := 11) C dX5_saves_6 (by decide) (fun c6 => ?_) (fun c6 => ?_)
  · refine x_bipush C dX5_saves_11 ⟨by decide, by decide⟩ ?_
    refine s_ist6_2 C dX5_saves_13 rfl ?_
    refine x_ldc C dX5_saves_14 gk_ki_X5_245 (z := 1048576) rfl ⟨by decide, by decide⟩ ?_
    refine s_ist6_3 C dX5_saves_16 rfl ?_
    refine x_iconst C dX5_saves_17 ⟨by decide, by decide⟩ ?_
    refine s_is6_4 C dX5_saves_18 rfl ?_
    exact lp_X5_saves hD.2.1 (by omega) C hQ (fun z w hz hN2 hfA => ⟨hz, ⟨_, _, _, _, _, _, _, _, _, _, _, _, _, _, _, hN2, hU, hK, hlU, hlK, ⟨jt, ht⟩, hO⟩, hfA⟩) _ 0 _ _ _ _ _ rfl (Nat.zero_add _) rfl (fun _ => rfl) (fun h9 => absurd rfl h9) hN2 frR.rf
  · refine x_iconst C dX5_saves_9 ⟨by decide, by decide⟩ ?_
    refine x_iret C hQ dX5_saves_10 (Nat.le_refl _) (Nat.le_refl _) ?_
    exact ⟨rfl, _, rfl, by rw [q_saves, if_neg (by omega), if_neg (by omega)], hM2, frR.rf⟩

set_option maxHeartbeats 1000000 in
set_option maxRecDepth 100000 in
theorem c_X5_isTight (l : Launch) {w : mW} {h : Nat} {F : mF} {um sm wp wr ac sz ra rn : Int} {M14 M15 M16 M17 M18 M19 M20 M21 M22 M23 : List Int} (hN : isN w h F um sm wp wr ac sz ra rn M14 M15 M16 M17 M18 M19 M20 M21 M22 M23) (hW : wfF F) (a b : Int) (ha : (0 ≤ a ∧ a ≤ F.1.1.length) ∧ F.1.1.length < 40) : Ci l yX5_isTight cX5_isTight 4 (some .boolean) 5 [vr h, vi a, vi b] w (fun z w' => (z = 0 ∨ z = 1) ∧ (z = 1 ↔ b < rowsF (putF F a 0)) ∧ (∃ M16 : List Int, isN w' h F um sm wp wr ac sz ra rn M14 M15 M16 M17 M18 M19 M20 M21 M22 M23) ∧ frR w w' h (h + 23)) := by
  refine Ci.of (ml := [some (vr h), some (vi a), some (vi b), none]) kyX5_isTight rfl (Nat.le_of_ble_eq_true rfl) rfl ?_
  intro t n C hQ
  have hf : frR w w h (h + 23) := frR.rf
  obtain ⟨j1, j2, j3, j4, j5, j6, pi, lr, lc, M7, M8, M9, M10, M11, M12, M13, hr⟩ := hN
  have l16 := hr.l16
  have l21 := hr.l21
  have l23 := hr.l23
  refine x_aload_n C dX5_isTight_0 rfl ?_
  refine x_aload_n C dX5_isTight_1 rfl ?_
  refine x_get C dX5_isTight_2 kfX5_65 hr.o rfl ?_
  refine x_iconst C dX5_isTight_5 ⟨by decide, by decide⟩ ?_
  refine y_v2 C dX5_isTight_6 kyX5_lays knX5_lays kmX5_181 hr.o (c_X5_lays l hr (ad := h + 16) (b := 0) (B := 0) rfl (by omega) hr.a16 (by omega) (by omega)) (by decide) (Nat.zero_le _) (Nat.zero_le _) (Nat.le_of_ble_eq_true rfl) (fun w6 q6 => ?_)
  obtain ⟨L9, e9, n9, nr9, fr9⟩ := q6
  subst e9
  refine ab_M_M16 hr hf (by rw [n9]; exact hr.l16) (fun w6 hr hf => ?_)
  have n9 : L9.length = 68 := by rw [n9]; omega
  refine x_aload_n C dX5_isTight_9 rfl ?_
  refine x_iload_n C dX5_isTight_10 rfl ?_
  refine x_iconst C dX5_isTight_11 ⟨by decide, by decide⟩ ?_
  refine y_v2 C dX5_isTight_12 kyX5_putsIn knX5_putsIn kmX5_195 hr.o (c_X5_putsIn l (F := F) ⟨j1, j2, j3, j4, j5, j6, pi, lr, lc, M7, M8, M9, M10, M11, M12, M13, hr⟩ a 0 hW.sm.1 hW.sm.2 ha) (by decide) (Nat.zero_le _) (Nat.zero_le _) (Nat.le_of_ble_eq_true rfl) (fun w12 q12 => ?_)
  obtain ⟨hN, hf9⟩ := q12
  have hf := hf.tr hf9
  have hN2 := hN
  have hwt := (wfF_iff F).mp hW
  have hwg : wfF (putF F a 0) := (wfF_iff _).mpr ⟨wf_put hwt.1 a 0 (by omega), hwt.2⟩
  obtain ⟨j1, j2, j3, j4, j5, j6, pi, lr, lc, M7, M8, M9, M10, M11, M12, M13, hr⟩ := hN
  refine x_aload_n C dX5_isTight_15 rfl ?_
  refine y_i0 C dX5_isTight_16 kyX5_rows knX5_rows kmX5_241 hr.o (c_X5_rows l hN2 hwg) (by decide) (Nat.zero_le _) (Nat.zero_le _) (Nat.le_of_ble_eq_true rfl) (fun z16 w16 q16 => ?_)
  obtain ⟨q16a, hNs, hf9⟩ := q16
  have hf := hf.tr hf9
  obtain ⟨j1, j2, j3, j4, j5, j6, J7, J8, J9, J10, J11, J12, J13, hr⟩ := id hNs
  refine x_iload_n C dX5_isTight_19 rfl ?_
  refine x_icmp_le (tgt := 27) C dX5_isTight_20 (by decide) (fun c20 => ?_) (fun c20 => ?_)
  · refine x_iconst C dX5_isTight_27 ⟨by decide, by decide⟩ ?_
    refine s_ist4_3 C dX5_isTight_28 rfl ?_
    refine x_aload_n C dX5_isTight_29 rfl ?_
    refine x_aload_n C dX5_isTight_30 rfl ?_
    refine x_get C dX5_isTight_31 kfX5_65 hr.o rfl ?_
    refine x_iconst C dX5_isTight_34 ⟨by decide, by decide⟩ ?_
    refine y_v2 C dX5_isTight_35 kyX5_takes knX5_takes kmX5_211 hr.o (c_X5_takes l hr (ad := h + 16) (b := 0) (B := 0) (L := L9) rfl (fun hr => hr.a16) (by omega) (by omega)) (by decide) (Nat.zero_le _) (Nat.zero_le _) (Nat.le_of_ble_eq_true rfl) (fun w35 q35 => ?_)
    obtain ⟨M1, M2, M3, M4, M5, M6, hr, hf9, g5, g1⟩ := q35
    have hf := hf.tr hf9
    have hN := takesF (w := w35) (lenF hW) (nr9.f (lenF hW)) hr g5 g1
    obtain ⟨j1, j2, j3, j4, j5, j6, pi, lr, lc, M7, M8, M9, M10, M11, M12, M13, hr⟩ := id hN
    refine x_iload_n C dX5_isTight_38 rfl ?_
    refine x_zret C hQ dX5_isTight_39 (by first | exact Or.inl rfl | exact Or.inr rfl | omega) (Nat.le_refl _) (Nat.le_refl _) ?_
    exact ⟨rfl, _, rfl, Or.inl rfl, ⟨fun h9 => by omega, fun h9 => by omega⟩, ⟨L9, hN⟩, hf⟩
  · refine x_iconst C dX5_isTight_23 ⟨by decide, by decide⟩ ?_
    refine x_goto (tgt := 28) C dX5_isTight_24 (by decide) ?_
    refine s_ist4_3 C dX5_isTight_28 rfl ?_
    refine x_aload_n C dX5_isTight_29 rfl ?_
    refine x_aload_n C dX5_isTight_30 rfl ?_
    refine x_get C dX5_isTight_31 kfX5_65 hr.o rfl ?_
    refine x_iconst C dX5_isTight_34 ⟨by decide, by decide⟩ ?_
    refine y_v2 C dX5_isTight_35 kyX5_takes knX5_takes kmX5_211 hr.o (c_X5_takes l hr (ad := h + 16) (b := 0) (B := 0) (L := L9) rfl (fun hr => hr.a16) (by omega) (by omega)) (by decide) (Nat.zero_le _) (Nat.zero_le _) (Nat.le_of_ble_eq_true rfl) (fun w35 q35 => ?_)
    obtain ⟨M1, M2, M3, M4, M5, M6, hr, hf9, g5, g1⟩ := q35
    have hf := hf.tr hf9
    have hN := takesF (w := w35) (lenF hW) (nr9.f (lenF hW)) hr g5 g1
    obtain ⟨j1, j2, j3, j4, j5, j6, pi, lr, lc, M7, M8, M9, M10, M11, M12, M13, hr⟩ := id hN
    refine x_iload_n C dX5_isTight_38 rfl ?_
    refine x_zret C hQ dX5_isTight_39 (by first | exact Or.inl rfl | exact Or.inr rfl | omega) (Nat.le_refl _) (Nat.le_refl _) ?_
    exact ⟨rfl, _, rfl, Or.inr rfl, ⟨fun h9 => by omega, fun h9 => by omega⟩, ⟨L9, hN⟩, hf⟩

theorem tg_full {F : mF} (h : 40 ≤ F.1.1.length) (p : Int) : ∀ m : Nat, cN (tgtF F) m = 0 ∧ nthN (tgtF F) p m = -4
  | 0 => ⟨rfl, rfl⟩
  | m + 1 => by
    have ih := tg_full h p m
    have hf : ¬ tgtF F m = true := fun h9 => by have := of_decide_eq_true h9; omega
    rw [cN, nthN, if_neg hf, if_neg (fun h9 => hf h9.1)]
    exact ⟨by omega, ih.2⟩

set_option maxHeartbeats 1000000 in
set_option maxRecDepth 100000 in
theorem lp_X5_tight {t : TX} {l : Launch} {n0 : Nat} {w0 : mW} {h : Nat} {F : mF} {um sm wp wr ac sz ra rn : Int} {M14 M15  M17 M18 M19 M20 M21 M22 M23 : List Int} (hW : wfF F) {p : Int} (hp : -1 ≤ p) (C : Cb t l cX5_tight RX5 6 (some .int) 6 0 0) {Q : Int → mW → Prop} (hQ : RQ t 0 0 (fun r n' w' => n' = n0 ∧ ∃ z : Int, r = some (vi z) ∧ Q z w')) (hq : ∀ (z : Int) (w : mW) (M16 : List Int), z = q_tight F p → isN w h F um sm wp wr ac sz ra rn M14 M15 M16 M17 M18 M19 M20 M21 M22 M23 → frR w0 w h (h + 23) → Q z w) : ∀ (m i : Nat) (c f v : Int) (w : mW) (M16 : List Int), v = (i : Int) → i + m = F.1.1.length + 1 → c = cN (tgtF F) i → f = nthN (tgtF F) p i → isN w h F um sm wp wr ac sz ra rn M14 M15 M16 M17 M18 M19 M20 M21 M22 M23 → frR w0 w h (h + 23) → J t 0 0 21 [some (vr h), some (vi p), some (vi (rowsF F)), some (vi c), some (vi f), some (vi v)] [] n0 w := by
  obtain ⟨f1, f2⟩ := id hW
  intro m
  induction m with
  | zero =>
    intro i c f v w M16 hv hm hc hff hN hf
    have hN2 := hN
    obtain ⟨j1, j2, j3, j4, j5, j6, pi, lr, lc, M7, M8, M9, M10, M11, M12, M13, hr⟩ := hN
    refine x_iload C dX5_tight_21 rfl ?_
    refine x_aload_n C dX5_tight_23 rfl ?_
    refine x_get C dX5_tight_24 kfX5_89 hr.o rfl ?_
    refine x_icmp_gt (tgt := 72) C dX5_tight_27 (by decide) (fun c27 => ?_) (fun c27 => absurd c27 (by omega))
    refine x_iload_n C dX5_tight_72 rfl ?_
    refine x_iconst C dX5_tight_73 ⟨by decide, by decide⟩ ?_
    refine x_icmp_ne (tgt := 81) C dX5_tight_74 (by decide) (fun c74 => ?_) (fun c74 => ?_)
    · refine x_iload C dX5_tight_81 rfl ?_
      refine x_iret C hQ dX5_tight_83 (Nat.le_refl _) (Nat.le_refl _) ?_
      exact ⟨rfl, _, rfl, hq _ _ _ (by rw [q_tight, if_neg (by omega), if_neg (by omega), ← show i = F.1.1.length + 1 by omega]; exact hff) hN2 hf⟩
    · refine x_iload_n C dX5_tight_77 rfl ?_
      refine x_goto (tgt := 83) C dX5_tight_78 (by decide) ?_
      refine x_iret C hQ dX5_tight_83 (Nat.le_refl _) (Nat.le_refl _) ?_
      exact ⟨rfl, _, rfl, hq _ _ _ (by rw [q_tight, if_neg (by omega), if_pos (by omega), ← show i = F.1.1.length + 1 by omega]; exact hc) hN2 hf⟩
  | succ m ih =>
    intro i c f v w M16 hv hm hc hff hN hf
    have hN2 := hN
    have hcn := cN_nn (tgtF F) i
    obtain ⟨j1, j2, j3, j4, j5, j6, pi, lr, lc, M7, M8, M9, M10, M11, M12, M13, hr⟩ := hN
    refine x_iload C dX5_tight_21 rfl ?_
    refine x_aload_n C dX5_tight_23 rfl ?_
    refine x_get C dX5_tight_24 kfX5_89 hr.o rfl ?_
    refine x_icmp_gt (tgt := 72) C dX5_tight_27 (by decide) (fun c27 => absurd c27 (by omega)) (fun c27 => ?_)
    refine x_aload_n C dX5_tight_30 rfl ?_
    refine x_get C dX5_tight_31 kfX5_89 hr.o rfl ?_
    refine x_bipush C dX5_tight_34 ⟨by decide, by decide⟩ ?_
    refine x_icmp_ge (tgt := 72) C dX5_tight_36 (by decide) (fun c36 => ?_) (fun c36 => ?_)
    · refine x_iload_n C dX5_tight_72 rfl ?_
      refine x_iconst C dX5_tight_73 ⟨by decide, by decide⟩ ?_
      refine x_icmp_ne (tgt := 81) C dX5_tight_74 (by decide) (fun c74 => ?_) (fun c74 => ?_)
      · refine x_iload C dX5_tight_81 rfl ?_
        refine x_iret C hQ dX5_tight_83 (Nat.le_refl _) (Nat.le_refl _) ?_
        exact ⟨rfl, _, rfl, hq _ _ _ (by rw [q_tight, if_neg (by omega), if_neg (by omega), hff, (tg_full (F := F) (by omega) p i).2, (tg_full (F := F) (by omega) p _).2]) hN2 hf⟩
      · refine x_iload_n C dX5_tight_77 rfl ?_
        refine x_goto (tgt := 83) C dX5_tight_78 (by decide) ?_
        refine x_iret C hQ dX5_tight_83 (Nat.le_refl _) (Nat.le_refl _) ?_
        exact ⟨rfl, _, rfl, hq _ _ _ (by rw [q_tight, if_neg (by omega), if_pos (by omega), hc, (tg_full (F := F) (by omega) p i).1, (tg_full (F := F) (by omega) p _).1]) hN2 hf⟩
    · refine x_aload_n C dX5_tight_39 rfl ?_
      refine x_iload C dX5_tight_40 rfl ?_
      refine x_iload_n C dX5_tight_42 rfl ?_
      refine y_i2 C dX5_tight_43 kyX5_isTight knX5_isTight kmX5_246 hr.o (c_X5_isTight l hN2 hW v (rowsF F) ⟨by omega, by omega⟩) (by decide) (Nat.zero_le _) (Nat.zero_le _) (Nat.le_of_ble_eq_true rfl) (fun z43 w43 q43 => ?_)
      obtain ⟨q43a, q43b, ⟨N16, hN9⟩, hf9⟩ := q43
      have hP : tgtF F i = true ↔ z43 = 1 := by
        rw [q43b, hv]
        exact ⟨fun h9 => (of_decide_eq_true h9).2, fun h9 => decide_eq_true ⟨by omega, h9⟩⟩
      refine x_if_eq (tgt := 66) C dX5_tight_46 (by decide) (fun c46 => ?_) (fun c46 => ?_)
      · refine s_inc6_5 C dX5_tight_66 rfl (by first | (unfold iR; omega) | exact ⟨by omega, by omega⟩) ?_
        refine x_goto (tgt := 21) C dX5_tight_69 (by decide) ?_
        exact ih (i + 1) _ _ _ _ _ (by omega) (by omega) (by rw [cN, if_neg (fun h9 => by have := hP.mp h9; omega)]; omega) (by rw [nthN, if_neg (fun h9 => by have := hP.mp h9.1; omega)]; exact hff) hN9 (hf.tr hf9)
      · refine x_iload_n C dX5_tight_49 rfl ?_
        refine x_iload_n C dX5_tight_50 rfl ?_
        refine x_icmp_ne (tgt := 59) C dX5_tight_51 (by decide) (fun c51 => ?_) (fun c51 => ?_)
        · refine x_iload C dX5_tight_59 rfl ?_
          refine s_is6_4 C dX5_tight_61 rfl ?_
          refine s_inc6_3 C dX5_tight_63 rfl (by first | (unfold iR; omega) | exact ⟨by omega, by omega⟩) ?_
          refine s_inc6_5 C dX5_tight_66 rfl (by first | (unfold iR; omega) | exact ⟨by omega, by omega⟩) ?_
          refine x_goto (tgt := 21) C dX5_tight_69 (by decide) ?_
          exact ih (i + 1) _ _ _ _ _ (by omega) (by omega) (by rw [cN, if_pos (hP.mpr (by omega))]; omega) (by rw [nthN, if_neg (fun h9 => by omega)]; exact hff) hN9 (hf.tr hf9)
        · refine x_iload C dX5_tight_54 rfl ?_
          refine x_goto (tgt := 61) C dX5_tight_56 (by decide) ?_
          refine s_is6_4 C dX5_tight_61 rfl ?_
          refine s_inc6_3 C dX5_tight_63 rfl (by first | (unfold iR; omega) | exact ⟨by omega, by omega⟩) ?_
          refine s_inc6_5 C dX5_tight_66 rfl (by first | (unfold iR; omega) | exact ⟨by omega, by omega⟩) ?_
          refine x_goto (tgt := 21) C dX5_tight_69 (by decide) ?_
          exact ih (i + 1) _ _ _ _ _ (by omega) (by omega) (by rw [cN, if_pos (hP.mpr (by omega))]; omega) (by rw [nthN, if_pos ⟨hP.mpr (by omega), by omega⟩]; exact hv) hN9 (hf.tr hf9)

set_option maxHeartbeats 1000000 in
set_option maxRecDepth 100000 in
theorem c_X5_tight (l : Launch) {w : mW} {h : Nat} {D : mD} (hM : isM w h D) (hD : wfD D) (p : Int) : Ci l yX5_tight cX5_tight 6 (some .int) 6 [vr h, vi p] w (fun z w' => z = q_tight D.F p ∧ isM w' h D ∧ frR w w' h (h + 23)) := by
  refine Ci.of (ml := [some (vr h), some (vi p), none, none, none, none]) kyX5_tight rfl (Nat.le_of_ble_eq_true rfl) rfl ?_
  intro t n C hQ
  have hM2 := hM
  obtain ⟨wp, wr, ac, ra, rn, M14, M15, M16, M17, M18, M19, M20, M21, M22, M23, hN, hU, hK, hlU, hlK, ⟨jt, ht⟩, hO⟩ := hM
  have hfA : frR w w h (h + 23) := frR.rf
  have hN2 := hN
  obtain ⟨j1, j2, j3, j4, j5, j6, pi, lr, lc, M7, M8, M9, M10, M11, M12, M13, hr⟩ := hN
  obtain ⟨f1, f2, f3, f4, f5, f6, f7, f8, f9, f10, f11, f12⟩ := id hD.2.1
  have hw : ∀ f ∈ D.F.1.2.1, (0 ≤ f.1 ∧ f.1 ≤ 100) ∧ (0 ≤ f.2.1 ∧ f.2.1 ≤ 100) ∧ (f.2.2 = 0 ∨ f.2.2 = 1) := fun f hf9 => by have := f4 f hf9; omega
  have hsm := hD.2.1.sm
  have hwT := (wfF_iff D.F).mp hD.2.1
  refine x_iload_n C dX5_tight_0 rfl ?_
  refine x_iconst C dX5_tight_1 ⟨by decide, by decide⟩ ?_
  refine x_icmp_ge (tgt := 7) C dX5_tight_2 (by decide) (fun c2 => ?_) (fun c2 => ?_)
  · refine x_aload_n C dX5_tight_7 rfl ?_
    refine y_i0 C dX5_tight_8 kyX5_rows knX5_rows kmX5_241 hr.o (c_X5_rows l hN2 hD.2.1) (by decide) (Nat.zero_le _) (Nat.zero_le _) (Nat.le_of_ble_eq_true rfl) (fun z8 w8 q8 => ?_)
    obtain ⟨q8a, hNs, hf9⟩ := q8
    subst q8a
    have hN2 := hNs.n
    refine s_ist6_2 C dX5_tight_11 rfl ?_
    refine x_iconst C dX5_tight_12 ⟨by decide, by decide⟩ ?_
    refine s_ist6_3 C dX5_tight_13 rfl ?_
    refine x_bipush C dX5_tight_14 ⟨by decide, by decide⟩ ?_
    refine s_is6_4 C dX5_tight_16 rfl ?_
    refine x_iconst C dX5_tight_18 ⟨by decide, by decide⟩ ?_
    refine s_is6_5 C dX5_tight_19 rfl ?_
    exact lp_X5_tight hD.2.1 (by omega) C hQ (fun z w N16 hz hN2 hfA => ⟨hz, ⟨_, _, _, _, _, _, _, _, _, _, _, _, _, _, _, hN2, hU, hK, hlU, hlK, ⟨jt, ht⟩, hO⟩, hfA⟩) _ 0 _ _ _ _ _ rfl (Nat.zero_add _) rfl rfl hN2 hf9
  · refine x_iconst C dX5_tight_5 ⟨by decide, by decide⟩ ?_
    refine x_iret C hQ dX5_tight_6 (Nat.le_refl _) (Nat.le_refl _) ?_
    exact ⟨rfl, _, rfl, by rw [q_tight, if_pos (by omega)], hM2, frR.rf⟩

set_option maxHeartbeats 1000000 in
set_option maxRecDepth 100000 in
theorem c_X5_turns (l : Launch) {w : mW} {h : Nat} {F : mF} {um sm wp wr ac sz ra rn : Int} {M14 M15 M16 M17 M18 M19 M20 M21 M22 M23 : List Int} (hN : isN w h F um sm wp wr ac sz ra rn M14 M15 M16 M17 M18 M19 M20 M21 M22 M23) (hW : wfF F) (d : Int) (hd : 0 ≤ d) : Cv l yX5_turns cX5_turns 4 2 [vr h, vi d] w (fun w' => isN w' h (liveS F.1 d, F.2) um sm wp wr ac sz ra rn M14 M15 M16 M17 M18 M19 M20 M21 M22 M23 ∧ frR w w' h (h + 23)) := by
  refine Cv.of (ml := [some (vr h), some (vi d), none, none]) kyX5_turns rfl (Nat.le_of_ble_eq_true rfl) rfl ?_
  intro t n C hQ
  have hN2 := hN
  have hf : frR w w h (h + 23) := frR.rf
  obtain ⟨j1, j2, j3, j4, j5, j6, pi, lr, lc, M7, M8, M9, M10, M11, M12, M13, hr⟩ := hN
  obtain ⟨f1, f2, f3, f4, f5, f6, f7, f8, f9, f10, f11, f12⟩ := id hW
  have hw : ∀ f ∈ F.1.2.1, (0 ≤ f.1 ∧ f.1 ≤ 100) ∧ (0 ≤ f.2.1 ∧ f.2.1 ≤ 100) ∧ (f.2.2 = 0 ∨ f.2.2 = 1) := fun f hf9 => by have := f4 f hf9; omega
  have l4 := hr.l4
  simp only [List.length_append, List.length_map] at l4
  refine x_iload_n C dX5_turns_0 rfl ?_
  refine x_iconst C dX5_turns_1 ⟨by decide, by decide⟩ ?_
  refine x_irem C dX5_turns_2 (by omega) (by omega) ?_
  refine s_ist4_2 C dX5_turns_3 rfl ?_
  refine x_iload_n C dX5_turns_4 rfl ?_
  refine x_iconst C dX5_turns_5 ⟨by decide, by decide⟩ ?_
  refine x_icmp_ge (tgt := 44) C dX5_turns_6 (by decide) (fun c6 => ?_) (fun c6 => ?_)
  · refine x_iload_n C dX5_turns_44 rfl ?_
    refine x_iconst C dX5_turns_45 ⟨by decide, by decide⟩ ?_
    refine x_icmp_ne (tgt := 73) C dX5_turns_46 (by decide) (fun c46 => ?_) (fun c46 => ?_)
    · refine x_aload_n C dX5_turns_73 rfl ?_
      refine x_get C dX5_turns_74 kfX5_107 hr.o rfl ?_
      refine x_if_le (tgt := 104) C dX5_turns_77 (by decide) (fun c77 => ?_) (fun c77 => ?_)
      · refine x_vret C hQ dX5_turns_104 (Nat.le_refl _) (Nat.le_refl _) ?_
        exact ⟨rfl, rfl, by unfold liveS turnF; rw [if_neg (by omega), if_pos (by omega), if_neg (by omega)]; exact hN2, hf⟩
      · refine x_iload_n C dX5_turns_80 rfl ?_
        refine x_bipush C dX5_turns_81 ⟨by decide, by decide⟩ ?_
        refine x_idiv C dX5_turns_83 (by omega) (by omega) ?_
        refine x_aload_n C dX5_turns_84 rfl ?_
        refine x_get C dX5_turns_85 kfX5_107 hr.o rfl ?_
        refine x_irem C dX5_turns_88 (by omega) (by omega) ?_
        have hm9 := Int.emod_nonneg (d / 8) (show ((F.1.2.1.length : Int) : Int) ≠ 0 by omega)
        have hm8 := Int.emod_lt_of_pos (d / 8) (show (0 : Int) < (F.1.2.1.length : Int) by omega)
        obtain ⟨p9, hp9⟩ : ∃ p9, p9 = d / 8 % (F.1.2.1.length : Int) := ⟨_, rfl⟩
        rw [← hp9]
        rw [← hp9] at hm9 hm8
        obtain ⟨u1, u2, u3, u4, u5, u6⟩ := turn_maps (p := p9) (fo := F.1.2.1) ⟨hm9, hm8⟩ (fun f hf => (hw f hf).2.2) j4
        refine s_ist4_3 C dX5_turns_89 rfl ?_
        refine x_aload_n C dX5_turns_90 rfl ?_
        refine x_get C dX5_turns_91 kfX5_19 hr.o rfl ?_
        refine x_iload_n C dX5_turns_94 rfl ?_
        refine x_iconst C dX5_turns_95 ⟨by decide, by decide⟩ ?_
        refine x_aload_n C dX5_turns_96 rfl ?_
        refine x_get C dX5_turns_97 kfX5_19 hr.o rfl ?_
        refine x_iload_n C dX5_turns_100 rfl ?_
        refine x_iald C dX5_turns_101 hr.a4 (by omega) (by rw [hr.l4]; omega) ?_
        refine x_isub C dX5_turns_102 (by first | (unfold iR; omega) | exact ⟨by omega, by omega⟩) ?_
        refine x_iast C dX5_turns_103 hr.a4 (by omega) (by rw [hr.l4]; omega) ?_
        refine ab_M_M4 hr hf (by rw [List.length_set]; exact hr.l4) (fun w hr hf => ?_)
        refine x_vret C hQ dX5_turns_104 (Nat.le_refl _) (Nat.le_refl _) ?_
        rw [u3, ← u1, ← u2, ← u4] at hr
        exact ⟨rfl, rfl, by unfold liveS redI; rw [if_neg (by omega), if_pos (by omega), if_pos (by omega), ← hp9]; exact ⟨j1, j2, j3, j4, j5, j6, pi, lr, lc, M7, M8, M9, M10, M11, M12, M13, hr⟩, hf⟩
    · refine x_aload_n C dX5_turns_49 rfl ?_
      refine x_get C dX5_turns_50 kfX5_89 hr.o rfl ?_
      refine x_if_le (tgt := 104) C dX5_turns_53 (by decide) (fun c53 => ?_) (fun c53 => ?_)
      · refine x_vret C hQ dX5_turns_104 (Nat.le_refl _) (Nat.le_refl _) ?_
        exact ⟨rfl, rfl, by unfold liveS delS; rw [if_pos (by omega), if_neg (by omega)]; exact hN2, hf⟩
      · refine x_aload_n C dX5_turns_56 rfl ?_
        refine x_iload_n C dX5_turns_57 rfl ?_
        refine x_sipush C dX5_turns_58 ⟨by decide, by decide⟩ ?_
        refine x_idiv C dX5_turns_61 (by omega) (by omega) ?_
        refine x_aload_n C dX5_turns_62 rfl ?_
        refine x_get C dX5_turns_63 kfX5_89 hr.o rfl ?_
        refine x_irem C dX5_turns_66 (by omega) (by omega) ?_
        have hm9 := Int.emod_nonneg (d / 256) (show ((F.1.1.length : Int) : Int) ≠ 0 by omega)
        have hm8 := Int.emod_lt_of_pos (d / 256) (show (0 : Int) < (F.1.1.length : Int) by omega)
        refine y_v1 C dX5_turns_67 kyX5_takesOut knX5_takesOut kmX5_202 hr.o (c_X5_takesOut l hN2 (d / 256 % F.1.1.length) hW ⟨hm9, hm8⟩) (by decide) (Nat.zero_le _) (Nat.zero_le _) (Nat.le_of_ble_eq_true rfl) (fun w67 q67 => ?_)
        refine x_goto (tgt := 104) C dX5_turns_70 (by decide) ?_
        refine x_vret C hQ dX5_turns_104 (Nat.le_refl _) (Nat.le_refl _) ?_
        exact ⟨rfl, rfl, by unfold liveS redI; rw [if_pos (by omega), if_pos (by omega)]; exact q67.1, q67.2⟩
  · refine x_aload_n C dX5_turns_9 rfl ?_
    refine x_get C dX5_turns_10 kfX5_89 hr.o rfl ?_
    refine x_bipush C dX5_turns_13 ⟨by decide, by decide⟩ ?_
    refine x_icmp_ge (tgt := 104) C dX5_turns_15 (by decide) (fun c15 => ?_) (fun c15 => ?_)
    · refine x_vret C hQ dX5_turns_104 (Nat.le_refl _) (Nat.le_refl _) ?_
      exact ⟨rfl, rfl, by unfold liveS putS; rw [if_neg (by omega), if_neg (by omega), if_neg (by omega)]; exact hN2, hf⟩
    · refine x_aload_n C dX5_turns_18 rfl ?_
      refine x_iload_n C dX5_turns_19 rfl ?_
      refine x_sipush C dX5_turns_20 ⟨by decide, by decide⟩ ?_
      refine x_idiv C dX5_turns_23 (by omega) (by omega) ?_
      refine x_aload_n C dX5_turns_24 rfl ?_
      refine x_get C dX5_turns_25 kfX5_89 hr.o rfl ?_
      refine x_iconst C dX5_turns_28 ⟨by decide, by decide⟩ ?_
      refine x_iadd C dX5_turns_29 (by first | (unfold iR; omega) | exact ⟨by omega, by omega⟩) ?_
      refine x_irem C dX5_turns_30 (by omega) (by omega) ?_
      have hm9 := Int.emod_nonneg (d / 256) (show ((F.1.1.length : Int) + 1 : Int) ≠ 0 by omega)
      have hm8 := Int.emod_lt_of_pos (d / 256) (show (0 : Int) < (F.1.1.length : Int) + 1 by omega)
      refine x_iload_n C dX5_turns_31 rfl ?_
      refine x_bipush C dX5_turns_32 ⟨by decide, by decide⟩ ?_
      refine x_idiv C dX5_turns_34 (by omega) (by omega) ?_
      refine x_bipush C dX5_turns_35 ⟨by decide, by decide⟩ ?_
      refine x_irem C dX5_turns_37 (by omega) (by omega) ?_
      refine y_v2 C dX5_turns_38 kyX5_putsIn knX5_putsIn kmX5_195 hr.o (c_X5_putsIn l hN2 (d / 256 % (F.1.1.length + 1)) (d / 8 % 28) hW.sm.1 hW.sm.2 ⟨⟨hm9, by omega⟩, by omega⟩) (by decide) (Nat.zero_le _) (Nat.zero_le _) (Nat.le_of_ble_eq_true rfl) (fun w38 q38 => ?_)
      refine x_goto (tgt := 104) C dX5_turns_41 (by decide) ?_
      refine x_vret C hQ dX5_turns_104 (Nat.le_refl _) (Nat.le_refl _) ?_
      exact ⟨rfl, rfl, by unfold liveS redI; rw [if_neg (by omega), if_neg (by omega), if_pos (by omega)]; exact q38.1, q38.2⟩

set_option maxHeartbeats 1000000 in
set_option maxRecDepth 100000 in
theorem lp_X5_day {t : TX} {l : Launch} {n0 : Nat} {w0 : mW} {h : Nat} {F : mF} {um sm wp wr ac sz ra rn : Int} {M14 M15 M16 M17 M18 M19 M20 M21 M22 M23 : List Int} (hW : wfF F) (hl21 : M21.length = 68) (hnF : noteF M21 0 F) {p q r : Int} (hp : 0 ≤ p ∧ p ≤ 9999) (hqq : 1 ≤ q ∧ q ≤ 40) (hrr : 0 ≤ r ∧ r ≤ 2) (C : Cb t l cX5_day RX5 7 (some .int) 5 0 0) {Q : Int → mW → Prop} (hQ : RQ t 0 0 (fun r n' w' => n' = n0 ∧ ∃ z : Int, r = some (vi z) ∧ Q z w')) (hq : ∀ (z : Int) (w : mW), z = q_day F p q r → isN w h F um sm wp wr ac sz ra rn M14 M15 M16 M17 M18 M19 M20 M21 M22 M23 → frR w0 w h (h + 23) → Q z w) : ∀ (m i : Nat) (k : Int) (x5 : Option mV) (w : mW), k = (i : Int) → (i : Int) + m = q → isN w h (livN F.1 p i, F.2) um sm wp wr ac sz ra rn M14 M15 M16 M17 M18 M19 M20 M21 M22 M23 → frR w0 w h (h + 23) → J t 0 0 44 [some (vr h), some (vi p), some (vi q), some (vi r), some (vi k), x5, none] [] n0 w := by
  have hwt := (wfF_iff F).mp hW
  have hwg : ∀ i : Nat, wfF (livN F.1 p i, F.2) := fun i => (wfF_iff _).mpr ⟨wf_livN hwt.1 p i, hwt.2⟩
  intro m
  induction m with
  | zero =>
    intro i k x5 w hk hm hN hf
    have hqi : q.toNat = i := by omega
    have hN2 := hN
    obtain ⟨j1, j2, j3, j4, j5, j6, pi, lr, lc, M7, M8, M9, M10, M11, M12, M13, hr⟩ := hN
    refine x_iload C dX5_day_44 rfl ?_
    refine x_iload_n C dX5_day_46 rfl ?_
    refine x_icmp_ge (tgt := 88) C dX5_day_47 (by decide) (fun c47 => ?_) (fun c47 => absurd c47 (by omega))
    refine x_iload_n C dX5_day_88 rfl ?_
    refine x_if_ne (tgt := 99) C dX5_day_89 (by decide) (fun c89 => ?_) (fun c89 => ?_)
    · refine x_iload_n C dX5_day_99 rfl ?_
      refine x_iconst C dX5_day_100 ⟨by decide, by decide⟩ ?_
      refine x_icmp_ne (tgt := 111) C dX5_day_101 (by decide) (fun c101 => ?_) (fun c101 => ?_)
      · refine x_aload_n C dX5_day_111 rfl ?_
        refine y_i0 C dX5_day_112 kyX5_longest knX5_longest kmX5_258 hr.o (c_X5_longest l hN2 (hwg i)) (by decide) (Nat.zero_le _) (Nat.zero_le _) (Nat.le_of_ble_eq_true rfl) (fun z112 w112 q112 => ?_)
        obtain ⟨q112a, hNs, hf9⟩ := q112
        have hf := hf.tr hf9
        obtain ⟨j1, j2, j3, j4, j5, j6, J7, J8, J9, J10, J11, J12, J13, hr⟩ := id hNs
        refine s_is7_4 C dX5_day_115 rfl ?_
        refine x_aload_n C dX5_day_117 rfl ?_
        refine x_aload_n C dX5_day_118 rfl ?_
        refine x_get C dX5_day_119 kfX5_80 hr.o rfl ?_
        refine x_iconst C dX5_day_122 ⟨by decide, by decide⟩ ?_
        refine y_v2 C dX5_day_123 kyX5_takes knX5_takes kmX5_211 hr.o (c_X5_takes l hr (ad := h + 21) (b := 0) (B := 0) (L := M21) rfl (fun hr => hr.a21) (by omega) (by omega)) (by decide) (Nat.zero_le _) (Nat.zero_le _) (Nat.le_of_ble_eq_true rfl) (fun w123 q123 => ?_)
        obtain ⟨M1, M2, M3, M4, M5, M6, hr, hf9, g5, g1⟩ := q123
        have hf := hf.tr hf9
        have hN := takesF (w := w123) (lenF hW) hnF hr g5 g1
        obtain ⟨j1, j2, j3, j4, j5, j6, pi, lr, lc, M7, M8, M9, M10, M11, M12, M13, hr⟩ := id hN
        refine x_iload C dX5_day_126 rfl ?_
        refine x_iret C hQ dX5_day_128 (Nat.le_refl _) (Nat.le_refl _) ?_
        exact ⟨rfl, _, rfl, hq _ _ (by rw [q_day, if_neg (by omega), if_neg (by omega), if_neg (by omega), hqi]; exact q112a) hN hf⟩
      · refine x_aload_n C dX5_day_104 rfl ?_
        refine y_i0 C dX5_day_105 kyX5_rows knX5_rows kmX5_241 hr.o (c_X5_rows l hN2 (hwg i)) (by decide) (Nat.zero_le _) (Nat.zero_le _) (Nat.le_of_ble_eq_true rfl) (fun z105 w105 q105 => ?_)
        obtain ⟨q105a, hNs, hf9⟩ := q105
        have hf := hf.tr hf9
        obtain ⟨j1, j2, j3, j4, j5, j6, J7, J8, J9, J10, J11, J12, J13, hr⟩ := id hNs
        refine x_goto (tgt := 115) C dX5_day_108 (by decide) ?_
        refine s_is7_4 C dX5_day_115 rfl ?_
        refine x_aload_n C dX5_day_117 rfl ?_
        refine x_aload_n C dX5_day_118 rfl ?_
        refine x_get C dX5_day_119 kfX5_80 hr.o rfl ?_
        refine x_iconst C dX5_day_122 ⟨by decide, by decide⟩ ?_
        refine y_v2 C dX5_day_123 kyX5_takes knX5_takes kmX5_211 hr.o (c_X5_takes l hr (ad := h + 21) (b := 0) (B := 0) (L := M21) rfl (fun hr => hr.a21) (by omega) (by omega)) (by decide) (Nat.zero_le _) (Nat.zero_le _) (Nat.le_of_ble_eq_true rfl) (fun w123 q123 => ?_)
        obtain ⟨M1, M2, M3, M4, M5, M6, hr, hf9, g5, g1⟩ := q123
        have hf := hf.tr hf9
        have hN := takesF (w := w123) (lenF hW) hnF hr g5 g1
        obtain ⟨j1, j2, j3, j4, j5, j6, pi, lr, lc, M7, M8, M9, M10, M11, M12, M13, hr⟩ := id hN
        refine x_iload C dX5_day_126 rfl ?_
        refine x_iret C hQ dX5_day_128 (Nat.le_refl _) (Nat.le_refl _) ?_
        exact ⟨rfl, _, rfl, hq _ _ (by rw [q_day, if_neg (by omega), if_neg (by omega), if_pos (by omega), hqi]; exact q105a) hN hf⟩
    · refine x_aload_n C dX5_day_92 rfl ?_
      refine x_get C dX5_day_93 kfX5_89 hr.o rfl ?_
      refine x_goto (tgt := 115) C dX5_day_96 (by decide) ?_
      refine s_is7_4 C dX5_day_115 rfl ?_
      refine x_aload_n C dX5_day_117 rfl ?_
      refine x_aload_n C dX5_day_118 rfl ?_
      refine x_get C dX5_day_119 kfX5_80 hr.o rfl ?_
      refine x_iconst C dX5_day_122 ⟨by decide, by decide⟩ ?_
      refine y_v2 C dX5_day_123 kyX5_takes knX5_takes kmX5_211 hr.o (c_X5_takes l hr (ad := h + 21) (b := 0) (B := 0) (L := M21) rfl (fun hr => hr.a21) (by omega) (by omega)) (by decide) (Nat.zero_le _) (Nat.zero_le _) (Nat.le_of_ble_eq_true rfl) (fun w123 q123 => ?_)
      obtain ⟨M1, M2, M3, M4, M5, M6, hr, hf9, g5, g1⟩ := q123
      have hf := hf.tr hf9
      have hN := takesF (w := w123) (lenF hW) hnF hr g5 g1
      obtain ⟨j1, j2, j3, j4, j5, j6, pi, lr, lc, M7, M8, M9, M10, M11, M12, M13, hr⟩ := id hN
      refine x_iload C dX5_day_126 rfl ?_
      refine x_iret C hQ dX5_day_128 (Nat.le_refl _) (Nat.le_refl _) ?_
      exact ⟨rfl, _, rfl, hq _ _ (by rw [q_day, if_neg (by omega), if_pos (by omega), hqi]) hN hf⟩
  | succ m ih =>
    intro i k x5 w hk hm hN hf
    have hN2 := hN
    have hB := drw_bd hp (show 0 ≤ k ∧ k ≤ 1000 by omega)
    have hdz : 0 ≤ drw p k := Int.emod_nonneg _ (by decide)
    obtain ⟨j1, j2, j3, j4, j5, j6, pi, lr, lc, M7, M8, M9, M10, M11, M12, M13, hr⟩ := hN
    refine x_iload C dX5_day_44 rfl ?_
    refine x_iload_n C dX5_day_46 rfl ?_
    refine x_icmp_ge (tgt := 88) C dX5_day_47 (by decide) (fun c47 => absurd c47 (by omega)) (fun c47 => ?_)
    refine x_ldc2 C dX5_day_50 gk_kl_X5_249 (z := 7919) rfl ⟨by decide, by decide⟩ ?_
    refine x_iload_n C dX5_day_53 rfl ?_
    refine x_i2l C dX5_day_54 ?_
    refine x_lmul C dX5_day_55 (by unfold lR; omega) ?_
    refine x_ldc2 C dX5_day_56 gk_kl_X5_251 (z := 6151) rfl ⟨by decide, by decide⟩ ?_
    refine x_iload C dX5_day_59 rfl ?_
    refine x_i2l C dX5_day_61 ?_
    refine x_lmul C dX5_day_62 (by unfold lR; omega) ?_
    refine x_ladd C dX5_day_63 (by unfold lR; omega) ?_
    refine x_lconst1 C dX5_day_64 ?_
    refine x_ladd C dX5_day_65 (by unfold lR; omega) ?_
    refine x_lstore C dX5_day_66 (by decide) rfl ?_
    show J t 0 0 68 [some (vr h), some (vi p), some (vi q), some (vi r), some (vi k), some (vl _), none] [] n0 w
    refine x_aload_n C dX5_day_68 rfl ?_
    refine x_lload C dX5_day_69 rfl ?_
    refine x_lload C dX5_day_71 rfl ?_
    refine x_lmul C dX5_day_73 (by unfold lR; omega) ?_
    refine x_ldc2 C dX5_day_74 gk_kl_X5_253 (z := 65521) rfl ⟨by decide, by decide⟩ ?_
    refine x_lrem C dX5_day_77 (by omega) (by omega) ?_
    refine x_l2i C dX5_day_78 (by have h1 := Int.emod_nonneg ((7919 * p + 6151 * k + 1) * (7919 * p + 6151 * k + 1)) (show (65521 : Int) ≠ 0 by decide); have h2 := Int.emod_lt_of_pos ((7919 * p + 6151 * k + 1) * (7919 * p + 6151 * k + 1)) (show (0 : Int) < 65521 by decide); unfold iR; omega) ?_
    refine y_v1 C dX5_day_79 kyX5_turns knX5_turns kmX5_255 hr.o (c_X5_turns l hN2 (hwg i) (drw p k) hdz) (by decide) (Nat.zero_le _) (Nat.zero_le _) (Nat.le_of_ble_eq_true rfl) (fun w79 q79 => ?_)
    obtain ⟨hN9, hf9⟩ := q79
    have hN9 : isN w79 h (livN F.1 p (i + 1), F.2) um sm wp wr ac sz ra rn M14 M15 M16 M17 M18 M19 M20 M21 M22 M23 := by rw [hk] at hN9; exact hN9
    refine s_inc7_4 C dX5_day_82 rfl (by first | (unfold iR; omega) | exact ⟨by omega, by omega⟩) ?_
    refine x_goto (tgt := 44) C dX5_day_85 (by decide) ?_
    exact ih (i + 1) _ _ _ (by omega) (by omega) hN9 (hf.tr hf9)

set_option maxHeartbeats 1000000 in
set_option maxRecDepth 100000 in
theorem c_X5_day (l : Launch) {w : mW} {h : Nat} {D : mD} (hM : isM w h D) (hD : wfD D) (p q r : Int) : Ci l yX5_day cX5_day 7 (some .int) 5 [vr h, vi p, vi q, vi r] w (fun z w' => z = q_day D.F p q r ∧ isM w' h D ∧ frR w w' h (h + 23)) := by
  refine Ci.of (ml := [some (vr h), some (vi p), some (vi q), some (vi r), none, none, none]) kyX5_day rfl (Nat.le_of_ble_eq_true rfl) rfl ?_
  intro t n C hQ
  have hM2 := hM
  obtain ⟨wp, wr, ac, ra, rn, M14, M15, M16, M17, M18, M19, M20, M21, M22, M23, hN, hU, hK, hlU, hlK, ⟨jt, ht⟩, hO⟩ := hM
  have hfA : frR w w h (h + 23) := frR.rf
  have hN2 := hN
  obtain ⟨j1, j2, j3, j4, j5, j6, pi, lr, lc, M7, M8, M9, M10, M11, M12, M13, hr⟩ := hN
  obtain ⟨f1, f2, f3, f4, f5, f6, f7, f8, f9, f10, f11, f12⟩ := id hD.2.1
  have hw : ∀ f ∈ D.F.1.2.1, (0 ≤ f.1 ∧ f.1 ≤ 100) ∧ (0 ≤ f.2.1 ∧ f.2.1 ≤ 100) ∧ (f.2.2 = 0 ∨ f.2.2 = 1) := fun f hf9 => by have := f4 f hf9; omega
  have hsm := hD.2.1.sm
  have hwT := (wfF_iff D.F).mp hD.2.1
  have hf : frR w w h (h + 23) := frR.rf
  have l21 := hr.l21
  refine x_iload_n C dX5_day_0 rfl ?_
  refine x_iconst C dX5_day_1 ⟨by decide, by decide⟩ ?_
  refine x_sipush C dX5_day_2 ⟨by decide, by decide⟩ ?_
  refine z_p3 C dX5_day_5 kyX5_in ksX5_in kmX5_103 (c_X5_in l p 0 9999) (by decide) (Nat.zero_le _) (Nat.zero_le _) (Nat.le_of_ble_eq_true rfl) (fun z5 q5 => ?_)
  refine x_if_eq (tgt := 30) C dX5_day_8 (by decide) (fun c8 => ?_) (fun c8 => ?_)
  · refine x_iconst C dX5_day_30 ⟨by decide, by decide⟩ ?_
    refine x_iret C hQ dX5_day_31 (Nat.le_refl _) (Nat.le_refl _) ?_
    exact ⟨rfl, _, rfl, by rw [q_day, if_pos (by omega)], hM2, frR.rf⟩
  · refine x_iload_n C dX5_day_11 rfl ?_
    refine x_iconst C dX5_day_12 ⟨by decide, by decide⟩ ?_
    refine x_bipush C dX5_day_13 ⟨by decide, by decide⟩ ?_
    refine z_p3 C dX5_day_15 kyX5_in ksX5_in kmX5_103 (c_X5_in l q 1 40) (by decide) (Nat.zero_le _) (Nat.zero_le _) (Nat.le_of_ble_eq_true rfl) (fun z15 q15 => ?_)
    refine x_if_eq (tgt := 30) C dX5_day_18 (by decide) (fun c18 => ?_) (fun c18 => ?_)
    · refine x_iconst C dX5_day_30 ⟨by decide, by decide⟩ ?_
      refine x_iret C hQ dX5_day_31 (Nat.le_refl _) (Nat.le_refl _) ?_
      exact ⟨rfl, _, rfl, by rw [q_day, if_pos (by omega)], hM2, frR.rf⟩
    · refine x_iload_n C dX5_day_21 rfl ?_
      refine x_iconst C dX5_day_22 ⟨by decide, by decide⟩ ?_
      refine x_iconst C dX5_day_23 ⟨by decide, by decide⟩ ?_
      refine z_p3 C dX5_day_24 kyX5_in ksX5_in kmX5_103 (c_X5_in l r 0 2) (by decide) (Nat.zero_le _) (Nat.zero_le _) (Nat.le_of_ble_eq_true rfl) (fun z24 q24 => ?_)
      refine x_if_ne (tgt := 32) C dX5_day_27 (by decide) (fun c27 => ?_) (fun c27 => ?_)
      · refine x_aload_n C dX5_day_32 rfl ?_
        refine x_aload_n C dX5_day_33 rfl ?_
        refine x_get C dX5_day_34 kfX5_80 hr.o rfl ?_
        refine x_iconst C dX5_day_37 ⟨by decide, by decide⟩ ?_
        refine y_v2 C dX5_day_38 kyX5_lays knX5_lays kmX5_181 hr.o (c_X5_lays l hr (ad := h + 21) (b := 0) (B := 0) rfl (by omega) hr.a21 (by omega) (by omega)) (by decide) (Nat.zero_le _) (Nat.zero_le _) (Nat.le_of_ble_eq_true rfl) (fun w38 q38 => ?_)
        obtain ⟨L9, e9, n9, nr9, fr9⟩ := q38
        subst e9
        refine ab_M_M21 hr hf (by rw [n9]; exact hr.l21) (fun w38 hr hf => ?_)
        have n9 : L9.length = 68 := by rw [n9]; omega
        refine x_iconst C dX5_day_41 ⟨by decide, by decide⟩ ?_
        refine s_is7_4 C dX5_day_42 rfl ?_
        exact lp_X5_day (F := D.F) (M21 := L9) hD.2.1 n9 (nr9.f (lenF hD.2.1)) (by omega) (by omega) (by omega) C hQ (fun z w hz hN2 hfA => ⟨hz, ⟨_, _, _, _, _, _, _, _, _, _, _, _, _, _, _, hN2, hU, hK, hlU, hlK, ⟨jt, ht⟩, hO⟩, hfA⟩) q.toNat 0 _ _ _ rfl (by omega) ⟨j1, j2, j3, j4, j5, j6, pi, lr, lc, M7, M8, M9, M10, M11, M12, M13, hr⟩ hf
      · refine x_iconst C dX5_day_30 ⟨by decide, by decide⟩ ?_
        refine x_iret C hQ dX5_day_31 (Nat.le_refl _) (Nat.le_refl _) ?_
        exact ⟨rfl, _, rfl, by rw [q_day, if_pos (by omega)], hM2, frR.rf⟩
