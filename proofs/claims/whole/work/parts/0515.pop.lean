set_option maxHeartbeats 1000000 in
set_option maxRecDepth 100000 in
theorem c_X0_popInto1 (l : Launch) {w : mW} {h cap : Nat} {L0 : List mF} {F : mF} (hP : isPi w h cap (L0 ++ [F])) (hcap : 1 ≤ cap ∧ cap ≤ 100) {u : Nat} (hu : anySh w u) (hd : u + 6 < h ∨ h + 1 + 7 * cap < u) : Ci l yX0_popInto cX0_popInto 2 (some .boolean) 2 [vr h, vr u] w (fun z w' => z = 1 ∧ ∃ w1, frR w w1 h (h + 1 + 7 * cap) ∧ frR w1 w' u (u + 6) ∧ isPi w' h cap L0 ∧ isF w' u F) := by
  refine Ci.of (ml := [some (vr h), some (vr u)]) kyX0_popInto rfl (Nat.le_of_ble_eq_true rfl) rfl ?_
  intro t n C hQ
  obtain ⟨hs, hp, p0, p1, hLc, hany, hall⟩ := hP
  have hpl := hp.1
  rw [show (((L0 ++ [F]).length : Nat) : Int) = (L0.length : Int) + 1 by simp] at p0
  simp only [List.length_append, List.length_cons, List.length_nil] at hLc
  refine x_aload_n C dX0_popInto_0 rfl ?_
  refine x_get C dX0_popInto_1 kfX0_22 (p0) rfl ?_
  refine x_iconst C dX0_popInto_4 ⟨by decide, by decide⟩ ?_
  refine x_icmp_lt (tgt := 20) C dX0_popInto_5 (by decide) (fun c5 => absurd c5 (by omega)) (fun c5 => ?_)
  refine x_aload_n C dX0_popInto_8 rfl ?_
  refine x_get C dX0_popInto_9 kfX0_22 (p0) rfl ?_
  refine x_aload_n C dX0_popInto_12 rfl ?_
  refine x_get C dX0_popInto_13 kfX0_15 (p0) rfl ?_
  refine x_alenQ C dX0_popInto_16 (p1) (by simp only [List.length_map]; omega) ?_
  rw [List.length_map]
  refine x_icmp_le (tgt := 22) C dX0_popInto_17 (by decide) (fun c17 => ?_) (fun c17 => absurd c17 (by omega))
  obtain ⟨PP, x, RR, hsp, hPl⟩ := spl hs L0.length (by omega)
  have hxm : x ∈ hs := by rw [hsp]; simp
  have hxl := hp.lt hxm
  have e41 : (hs.map some).getD (((L0.length : Int) + 1 - 1)).toNat none = some x := by
    have h9 := gd_some PP RR x (i := ((L0.length : Int) + 1 - 1)) (by omega)
    rw [← hsp] at h9
    exact h9
  obtain ⟨x2, gx1, gx2⟩ := hall L0.length F (by simp)
  have hx2 : x2 = x := by
    have g3 : hs[L0.length]? = some x := by rw [hsp, ← hPl]; simp
    exact Option.some.inj (gx1.symm.trans g3)
  subst hx2
  refine x_aload_n C dX0_popInto_22 rfl ?_
  refine x_dup C dX0_popInto_23 rfl ?_
  refine x_get C dX0_popInto_24 kfX0_22 (p0) rfl ?_
  refine x_iconst C dX0_popInto_27 ⟨by decide, by decide⟩ ?_
  refine x_isub C dX0_popInto_28 (by first | (unfold iR; omega) | exact ⟨by omega, by omega⟩) ?_
  refine x_put C dX0_popInto_29 kfX0_22 kw_0_1 rfl rfl (p0) (Nat.le_of_ble_eq_true rfl) ?_
  have hf1 : frR w (mu w h (co 0 (List.set [vr (h + 1), vi ((L0.length : Int) + 1)] 1 (vi ((L0.length : Int) + 1 - 1))))) h (h + 1 + 7 * cap) := fun a ha => mu_ne _ _ (by omega)
  have hf0 : frR w (mu w h (co 0 (List.set [vr (h + 1), vi ((L0.length : Int) + 1)] 1 (vi ((L0.length : Int) + 1 - 1))))) h h := fun a ha => mu_ne _ _ (by omega)
  have p0 : (mu w h (co 0 (List.set [vr (h + 1), vi ((L0.length : Int) + 1)] 1 (vi ((L0.length : Int) + 1 - 1))))) h = some (co 0 [vr (h + 1), vi ((L0.length : Int) + 1 - 1)]) := mu_eq _ _ _
  have p1 : (mu w h (co 0 (List.set [vr (h + 1), vi ((L0.length : Int) + 1)] 1 (vi ((L0.length : Int) + 1 - 1))))) (h + 1) = some (cq (hs.map some)) := (mu_ne _ _ (by omega)).trans p1
  generalize (mu w h (co 0 (List.set [vr (h + 1), vi ((L0.length : Int) + 1)] 1 (vi ((L0.length : Int) + 1 - 1))))) = w1 at hf1 hf0 p0 p1 ⊢
  have hfx := gx2.fr hf0 (by omega)
  obtain ⟨_, _, _, _, _, _, _, _, _, _, _, _, _, hur⟩ := hu.fr hf1 (by omega)
  have hu0 := hur.o
  obtain ⟨j1, j2, j3, j4, j5, j6, hxr⟩ := hfx
  have hx0 := hxr.o
  have hPi : isPi w1 h cap L0 := by
    refine ⟨hs, hp, by rw [p0, show ((L0.length : Int) + 1 - 1) = L0.length by omega], p1, by omega, fun y hy => (hany y hy).fr hf0 (by have := hp.lt hy; omega), fun i G hG => ?_⟩
    obtain ⟨y, g1, g2⟩ := hall i G (by rw [List.getElem?_append_left (List.getElem?_eq_some_iff.mp hG).1]; exact hG)
    exact ⟨y, g1, g2.fr hf0 (by have := hp.lt (List.mem_of_getElem? g1); omega)⟩
  refine x_aload_n C dX0_popInto_32 rfl ?_
  refine x_aload_n C dX0_popInto_33 rfl ?_
  refine x_get C dX0_popInto_34 kfX0_15 (p0) rfl ?_
  refine x_aload_n C dX0_popInto_37 rfl ?_
  refine x_get C dX0_popInto_38 kfX0_22 (p0) rfl ?_
  refine x_aald C dX0_popInto_41 (p1) (by omega) (by simp only [List.length_map]; omega) e41 ?_
  refine y_v1 C dX0_popInto_42 kyX2_copyFrom knX2_copyFrom kmX0_33 (hu0) (c_X2_copyFrom l hur hxr (by omega)) (by decide) (Nat.zero_le _) (Nat.zero_le _) (Nat.le_of_ble_eq_true rfl) (fun w42 q42 => ?_)
  obtain ⟨hur, hf9⟩ := q42
  refine x_iconst C dX0_popInto_45 ⟨by decide, by decide⟩ ?_
  refine x_zret C hQ dX0_popInto_46 (by first | exact Or.inl rfl | exact Or.inr rfl | omega) (Nat.le_refl _) (Nat.le_refl _) ?_
  exact ⟨rfl, _, rfl, rfl, w1, hf1, hf9, hPi.fr hf9 (by omega), ⟨j1, j2, j3, j4, j5, j6, hur⟩⟩
set_option maxHeartbeats 1000000 in
set_option maxRecDepth 100000 in
theorem c_X0_popInto0 (l : Launch) {w : mW} {h cap : Nat} (hP : isPi w h cap []) {u : Nat} : Cp l yX0_popInto cX0_popInto 2 (some .boolean) 2 [vr h, vr u] w (fun z => z = 0) := by
  refine Cp.of (ml := [some (vr h), some (vr u)]) kyX0_popInto rfl (Nat.le_of_ble_eq_true rfl) rfl ?_
  intro t n C hQ
  obtain ⟨hs, hp, p0, p1, hLc, hany, hall⟩ := hP
  rw [show ((([] : List mF).length : Nat) : Int) = 0 by simp] at p0
  refine x_aload_n C dX0_popInto_0 rfl ?_
  refine x_get C dX0_popInto_1 kfX0_22 (p0) rfl ?_
  refine x_iconst C dX0_popInto_4 ⟨by decide, by decide⟩ ?_
  refine x_icmp_lt (tgt := 20) C dX0_popInto_5 (by decide) (fun c5 => ?_) (fun c5 => absurd c5 (by omega))
  refine x_iconst C dX0_popInto_20 ⟨by decide, by decide⟩ ?_
  refine x_zret C hQ dX0_popInto_21 (by first | exact Or.inl rfl | exact Or.inr rfl | omega) (Nat.le_refl _) (Nat.le_refl _) ?_
  exact ⟨rfl, rfl, _, rfl, rfl⟩
