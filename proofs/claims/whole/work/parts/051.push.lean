set_option maxHeartbeats 1000000 in
set_option maxRecDepth 100000 in
theorem c_X0_push (l : Launch) {w : mW} {h cap : Nat} {L : List mF} (hP : isPi w h cap L) (hcap : 1 ≤ cap ∧ cap ≤ 100) {u : Nat} {F : mF} (hu : isF w u F) (hd : u + 6 < h ∨ h + 1 + 7 * cap < u) : Cv l yX0_push cX0_push 2 2 [vr h, vr u] w (fun w' => isPi w' h cap (pushL cap L F) ∧ frR w w' h (h + 1 + 7 * cap)) := by
  refine Cv.of (ml := [some (vr h), some (vr u)]) kyX0_push rfl (Nat.le_of_ble_eq_true rfl) rfl ?_
  intro t n C hQ
  obtain ⟨hs, hp, p0, p1, hLc, hany, hall⟩ := hP
  have hpl := hp.1
  refine x_aload_n C dX0_push_0 rfl ?_
  refine y_p0 C dX0_push_1 kyX0_isFull knX0_isFull kmX0_26 (p0) (c_X0_isFull l p0 p1 (by omega)) (by decide) (Nat.zero_le _) (Nat.zero_le _) (Nat.le_of_ble_eq_true rfl) (fun z1 q1 => ?_)
  refine x_if_eq (tgt := 11) C dX0_push_4 (by decide) (fun c4 => ?_) (fun c4 => ?_)
  · have hL2 : L.length < cap := by omega
    refine x_aload_n C dX0_push_11 rfl ?_
    refine x_get C dX0_push_12 kfX0_22 (p0) rfl ?_
    refine x_if_lt (tgt := 53) C dX0_push_15 (by decide) (fun c15 => absurd c15 (by omega)) (fun c15 => ?_)
    refine x_aload_n C dX0_push_18 rfl ?_
    refine x_get C dX0_push_19 kfX0_22 (p0) rfl ?_
    refine x_aload_n C dX0_push_22 rfl ?_
    refine x_get C dX0_push_23 kfX0_15 (p0) rfl ?_
    refine x_alenQ C dX0_push_26 (p1) (by simp only [List.length_map]; omega) ?_
    rw [List.length_map]
    refine x_icmp_ge (tgt := 53) C dX0_push_27 (by decide) (fun c27 => absurd c27 (by omega)) (fun c27 => ?_)
    obtain ⟨PP, x, RR, hsp, hPl⟩ := spl hs L.length (by omega)
    have hxm : x ∈ hs := by rw [hsp]; simp
    have hxl := hp.lt hxm
    have e38 : (hs.map some).getD (L.length : Int).toNat none = some x := by
      have h9 := gd_some PP RR x (i := (L.length : Int)) (by omega)
      rw [← hsp] at h9
      exact h9
    obtain ⟨_, _, _, _, _, _, _, _, _, _, _, _, _, hxr⟩ := hany x hxm
    have hx0 := hxr.o
    have hu2 := hu
    obtain ⟨j1, j2, j3, j4, j5, j6, hur⟩ := hu2
    have hu0 := hur.o
    refine x_aload_n C dX0_push_30 rfl ?_
    refine x_get C dX0_push_31 kfX0_15 (p0) rfl ?_
    refine x_aload_n C dX0_push_34 rfl ?_
    refine x_get C dX0_push_35 kfX0_22 (p0) rfl ?_
    refine x_aald C dX0_push_38 (p1) (by omega) (by simp only [List.length_map]; omega) e38 ?_
    refine x_aload_n C dX0_push_39 rfl ?_
    refine y_v1 C dX0_push_40 kyX2_copyFrom knX2_copyFrom kmX0_33 (hx0) (c_X2_copyFrom l hxr hur (by omega)) (by decide) (Nat.zero_le _) (Nat.zero_le _) (Nat.le_of_ble_eq_true rfl) (fun w40 q40 => ?_)
    obtain ⟨hxr, hf9⟩ := q40
    have p0 := (hf9 h (by omega)).trans p0
    refine x_aload_n C dX0_push_43 rfl ?_
    refine x_dup C dX0_push_44 rfl ?_
    refine x_get C dX0_push_45 kfX0_22 (p0) rfl ?_
    refine x_iconst C dX0_push_48 ⟨by decide, by decide⟩ ?_
    refine x_iadd C dX0_push_49 (by first | (unfold iR; omega) | exact ⟨by omega, by omega⟩) ?_
    refine x_put C dX0_push_50 kfX0_22 kw_0_1 rfl rfl (p0) (Nat.le_of_ble_eq_true rfl) ?_
    refine x_vret C hQ dX0_push_53 (Nat.le_refl _) (Nat.le_refl _) ?_
    have hf10 : frR w (mu w40 h (co 0 (List.set [vr (h + 1), vi (L.length : Int)] 1 (vi (L.length + 1))))) h (h + 1 + 7 * cap) := fun a ha => (mu_ne _ _ (by omega)).trans (hf9 a (by omega))
    refine ⟨rfl, rfl, ?_, hf10⟩
    rw [show pushL cap L F = L ++ [F] from by unfold pushL; rw [if_pos (by omega)]]
    refine ⟨hs, hp, ?_, (mu_ne _ _ (by omega)).trans ((hf9 _ (by omega)).trans p1), by simp; omega, fun y hy => ?_, fun i G hG => ?_⟩
    · rw [mu_eq]
      simp
    · have hyl := hp.lt hy
      have hfy : frR w40 (mu w40 h (co 0 (List.set [vr (h + 1), vi (L.length : Int)] 1 (vi (L.length + 1))))) h h := fun a ha => mu_ne _ _ (by omega)
      refine anySh.fr ?_ hfy (by omega)
      by_cases hyx : y = x
      · subst hyx; exact ⟨_, _, _, _, _, _, _, _, _, _, _, _, _, hxr⟩
      · exact (hany y hy).fr hf9 (by have := hp.apart hy hxm hyx; omega)
    · have hfy : frR w40 (mu w40 h (co 0 (List.set [vr (h + 1), vi (L.length : Int)] 1 (vi (L.length + 1))))) h h := fun a ha => mu_ne _ _ (by omega)
      by_cases hi : i < L.length
      · rw [List.getElem?_append_left hi] at hG
        obtain ⟨y, g1, g2⟩ := hall i G hG
        have hym := List.mem_of_getElem? g1
        have hyl := hp.lt hym
        refine ⟨y, g1, (g2.fr hf9 ?_).fr hfy (by omega)⟩
        have hyx : y ≠ x := by
          intro h8
          subst h8
          have g3 : hs[L.length]? = some y := by rw [hsp, ← hPl]; simp
          have := (List.getElem?_inj (by rw [hp.1]; omega) hp.2.1).mp (g1.trans g3.symm)
          omega
        have := hp.apart hym hxm hyx
        omega
      · have hi2 : i = L.length := by
          have := (List.getElem?_eq_some_iff.mp hG).1
          simp at this
          omega
        subst hi2
        rw [List.getElem?_append_right (by omega), Nat.sub_self] at hG
        cases hG
        refine ⟨x, by rw [hsp, ← hPl]; simp, ?_⟩
        refine isF.fr ⟨j1, j2, j3, j4, j5, j6, hxr⟩ hfy (by omega)
  · have hL2 : L.length = cap := by omega
    cases hs with
    | nil => simp at hpl; omega
    | cons x0 hs =>
    cases L with
    | nil => simp at hL2; omega
    | cons F0 T9 =>
    simp only [List.length_cons] at hpl hL2 hLc
    obtain ⟨T, Z, hTZ, hTl⟩ : ∃ T Z, hs = T ++ Z ∧ T.length = T9.length := ⟨hs, [], by simp, by omega⟩
    subst hTZ
    simp only [List.length_append] at hpl
    refine x_aload_n C dX0_push_7 rfl ?_
    refine y_v0 C dX0_push_8 kyX0_dropLowest knX0_dropLowest kmX0_30 (p0) (c_X0_dropLowest l (x0 := x0) (T := T) (Z := Z) (by rw [p0, hTl]; simp) p1 (fun x hx => ⟨by have := hp.lt hx; omega, by have := hp.lt hx; omega, (hany x hx).o⟩) (by omega)) (by decide) (Nat.zero_le _) (Nat.zero_le _) (Nat.le_of_ble_eq_true rfl) (fun w8 q8 => ?_)
    have hfd : frR w w8 h (h + 1) := fun a ha => by rw [q8]; exact (mu_ne _ _ (by omega)).trans (mu_ne _ _ (by omega))
    have p1 : w8 (h + 1) = some (cq ((T ++ x0 :: Z).map some)) := by rw [q8]; exact (mu_ne _ _ (by omega)).trans (mu_eq _ _ _)
    have p0 : w8 h = some (co 0 [vr (h + 1), vi (T9.length : Int)]) := by rw [q8, mu_eq, hTl]
    have hpo := hp
    have hp := hp.rot
    have hmm : ∀ x, x ∈ T ++ x0 :: Z ↔ x ∈ x0 :: (T ++ Z) := fun x => List.perm_middle.mem_iff
    have hany : ∀ x ∈ T ++ x0 :: Z, anySh w8 x := fun x hx => (hany x ((hmm x).mp hx)).fr hfd (by have := hp.lt hx; omega)
    have hu := hu.fr hfd (by omega)
    have hall : ∀ (i : Nat) (G : mF), T9[i]? = some G → ∃ x, (T ++ x0 :: Z)[i]? = some x ∧ isF w8 x G := by
      intro i G hG
      obtain ⟨x, g1, g2⟩ := hall (i + 1) G (by simpa using hG)
      have hi : i < T.length := by
        have := (List.getElem?_eq_some_iff.mp hG).1
        omega
      have g3 : (T ++ x0 :: Z)[i]? = some x := by
        rw [List.getElem?_append_left hi]
        rw [List.getElem?_cons_succ, List.getElem?_append_left hi] at g1
        exact g1
      exact ⟨x, g3, g2.fr hfd (by have := hp.lt (List.mem_of_getElem? g3); omega)⟩
    have hpl := hp.1
    have hfd : frR w w8 h (h + 1 + 7 * cap) := hfd.wd (by omega) (by omega)
    refine x_aload_n C dX0_push_11 rfl ?_
    refine x_get C dX0_push_12 kfX0_22 (p0) rfl ?_
    refine x_if_lt (tgt := 53) C dX0_push_15 (by decide) (fun c15 => absurd c15 (by omega)) (fun c15 => ?_)
    refine x_aload_n C dX0_push_18 rfl ?_
    refine x_get C dX0_push_19 kfX0_22 (p0) rfl ?_
    refine x_aload_n C dX0_push_22 rfl ?_
    refine x_get C dX0_push_23 kfX0_15 (p0) rfl ?_
    refine x_alenQ C dX0_push_26 (p1) (by simp only [List.length_map]; omega) ?_
    rw [List.length_map]
    refine x_icmp_ge (tgt := 53) C dX0_push_27 (by decide) (fun c27 => absurd c27 (by omega)) (fun c27 => ?_)
    obtain ⟨PP, x, RR, hsp, hPl⟩ := spl (T ++ x0 :: Z) T9.length (by omega)
    have hxm : x ∈ (T ++ x0 :: Z) := by rw [hsp]; simp
    have hxl := hp.lt hxm
    have e38 : ((T ++ x0 :: Z).map some).getD (T9.length : Int).toNat none = some x := by
      have h9 := gd_some PP RR x (i := (T9.length : Int)) (by omega)
      rw [← hsp] at h9
      exact h9
    obtain ⟨_, _, _, _, _, _, _, _, _, _, _, _, _, hxr⟩ := hany x hxm
    have hx0 := hxr.o
    have hu2 := hu
    obtain ⟨j1, j2, j3, j4, j5, j6, hur⟩ := hu2
    have hu0 := hur.o
    refine x_aload_n C dX0_push_30 rfl ?_
    refine x_get C dX0_push_31 kfX0_15 (p0) rfl ?_
    refine x_aload_n C dX0_push_34 rfl ?_
    refine x_get C dX0_push_35 kfX0_22 (p0) rfl ?_
    refine x_aald C dX0_push_38 (p1) (by omega) (by simp only [List.length_map]; omega) e38 ?_
    refine x_aload_n C dX0_push_39 rfl ?_
    refine y_v1 C dX0_push_40 kyX2_copyFrom knX2_copyFrom kmX0_33 (hx0) (c_X2_copyFrom l hxr hur (by omega)) (by decide) (Nat.zero_le _) (Nat.zero_le _) (Nat.le_of_ble_eq_true rfl) (fun w40 q40 => ?_)
    obtain ⟨hxr, hf9⟩ := q40
    have p0 := (hf9 h (by omega)).trans p0
    refine x_aload_n C dX0_push_43 rfl ?_
    refine x_dup C dX0_push_44 rfl ?_
    refine x_get C dX0_push_45 kfX0_22 (p0) rfl ?_
    refine x_iconst C dX0_push_48 ⟨by decide, by decide⟩ ?_
    refine x_iadd C dX0_push_49 (by first | (unfold iR; omega) | exact ⟨by omega, by omega⟩) ?_
    refine x_put C dX0_push_50 kfX0_22 kw_0_1 rfl rfl (p0) (Nat.le_of_ble_eq_true rfl) ?_
    refine x_vret C hQ dX0_push_53 (Nat.le_refl _) (Nat.le_refl _) ?_
    have hf10 : frR w8 (mu w40 h (co 0 (List.set [vr (h + 1), vi (T9.length : Int)] 1 (vi (T9.length + 1))))) h (h + 1 + 7 * cap) := fun a ha => (mu_ne _ _ (by omega)).trans (hf9 a (by omega))
    refine ⟨rfl, rfl, ?_, fun a ha => (hf10 a ha).trans (hfd a ha)⟩
    rw [show pushL cap (F0 :: T9) F = T9 ++ [F] from by unfold pushL; rw [if_neg (by simp; omega)]; rfl]
    refine ⟨(T ++ x0 :: Z), hp, ?_, (mu_ne _ _ (by omega)).trans ((hf9 _ (by omega)).trans p1), by simp; omega, fun y hy => ?_, fun i G hG => ?_⟩
    · rw [mu_eq]
      simp
    · have hyl := hp.lt hy
      have hfy : frR w40 (mu w40 h (co 0 (List.set [vr (h + 1), vi (T9.length : Int)] 1 (vi (T9.length + 1))))) h h := fun a ha => mu_ne _ _ (by omega)
      refine anySh.fr ?_ hfy (by omega)
      by_cases hyx : y = x
      · subst hyx; exact ⟨_, _, _, _, _, _, _, _, _, _, _, _, _, hxr⟩
      · exact (hany y hy).fr hf9 (by have := hp.apart hy hxm hyx; omega)
    · have hfy : frR w40 (mu w40 h (co 0 (List.set [vr (h + 1), vi (T9.length : Int)] 1 (vi (T9.length + 1))))) h h := fun a ha => mu_ne _ _ (by omega)
      by_cases hi : i < T9.length
      · rw [List.getElem?_append_left hi] at hG
        obtain ⟨y, g1, g2⟩ := hall i G hG
        have hym := List.mem_of_getElem? g1
        have hyl := hp.lt hym
        refine ⟨y, g1, (g2.fr hf9 ?_).fr hfy (by omega)⟩
        have hyx : y ≠ x := by
          intro h8
          subst h8
          have g3 : (T ++ x0 :: Z)[T9.length]? = some y := by rw [hsp, ← hPl]; simp
          have := (List.getElem?_inj (by rw [hp.1]; omega) hp.2.1).mp (g1.trans g3.symm)
          omega
        have := hp.apart hym hxm hyx
        omega
      · have hi2 : i = T9.length := by
          have := (List.getElem?_eq_some_iff.mp hG).1
          simp at this
          omega
        subst hi2
        rw [List.getElem?_append_right (by omega), Nat.sub_self] at hG
        cases hG
        refine ⟨x, by rw [hsp, ← hPl]; simp, ?_⟩
        refine isF.fr ⟨j1, j2, j3, j4, j5, j6, hxr⟩ hfy (by omega)
