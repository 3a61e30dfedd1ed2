/-! ===== DisplayMap: its constructor ===== -/
theorem rd30a : (rdT (txt0.length + 1) 0 txt0 F00).1 = -4 := by decide +kernel
theorem rd30b : (rdT (txt0.length + 1) 0 txt0 F00).2.1.1 = sg30 := by decide +kernel
theorem rd30c : (rdT (txt0.length + 1) 0 txt0 F00).2.1.2.1 = [(6, 9, 1), (18, 21, 1)] := by decide +kernel
theorem rd30d : (rdT (txt0.length + 1) 0 txt0 F00).2.1.2.2 = [(3, 2), (11, 4)] := by decide +kernel
theorem rd30e : (rdT (txt0.length + 1) 0 txt0 F00).2.2.1 = 2 ∧ (rdT (txt0.length + 1) 0 txt0 F00).2.2.2.1 = 7 ∧ (rdT (txt0.length + 1) 0 txt0 F00).2.2.2.2.1 = 1 ∧ (rdT (txt0.length + 1) 0 txt0 F00).2.2.2.2.2 = 3 := by decide +kernel
theorem rd30 : rdT (txt0.length + 1) 0 txt0 F00 = (-4, F30) := by
  obtain ⟨h1, h2, h3, h4⟩ := rd30e
  exact Prod.ext rd30a (Prod.ext (Prod.ext rd30b (Prod.ext rd30c rd30d)) (Prod.ext h1 (Prod.ext h2 (Prod.ext h3 h4))))
theorem txt0_len : txt0.length = 65 := rfl
theorem txt0_take (i : Nat) (h : i < 65) : txt0.take i ++ [txt0.getD i 0] = txt0.take (i + 1) := by
  have h2 : i < txt0.length := h
  rw [List.take_succ_eq_append_getElem h2, List.getD_eq_getElem?_getD, List.getElem?_eq_getElem h2]
  rfl

set_option maxHeartbeats 1000000 in
set_option maxRecDepth 100000 in
theorem lp_X4_init {t : TX} {l : Launch} {q v : Nat} {fm : Option Nat} {w0 : mW} {h : Nat} (C : Cb t l cX4_init RX4 2 none 5 115 2056) (hE : tS q v fm t) (hQ : RQ t 115 2056 (fun r n' w' => r = none ∧ n' = h + 116 ∧ isX w' h D30 ∧ frR w0 w' h (h + 115))) : ∀ (m i : Nat) (w : mW), i + m = 65 → w h = some (co 4 [vr (h + 1), vr (h + 4), vr (h + 11), vr (h + 69), vr (h + 85), vr (h + 93), vi 0, vr (h + 101), vr (h + 108)]) → isTx w (h + 1) (txt0.take i) → anySh w (h + 4) → isPi w (h + 11) 8 [] → isPi w (h + 69) 2 [] → anySc w (h + 85) → anySc w (h + 93) → anySh w (h + 101) → anySc w (h + 108) → frR w0 w h (h + 115) → J t 115 2056 97 [some (vr h), some (vi (i : Int))] [] (h + 116) w := by
  intro m
  induction m with
  | zero =>
    intro i w hi x0 hT hF hU hK hA hB hR hZ hfA
    have hi9 : i = 65 := by omega
    subst hi9
    have hT : isTx w (h + 1) txt0 := hT
    refine x_iload_n C dX4_init_97 rfl ?_
    refine x_ldcS C hE dX4_init_98 ?_
    refine x_callVE C hE dX4_init_100 kyJ0_length_8abf5 rfl kn1J0_length_8abf5 kn2J0_length_8abf5 kmS_RX4_53 (c_J0_length_8abf5 l) (As := []) rfl (by decide) (Nat.le_refl _) (Nat.le_refl _) (Nat.le_of_ble_eq_true rfl) rfl ?_
    rintro r n' w' ⟨rfl, rfl, rfl⟩
    refine x_icmp_ge (tgt := 126) C dX4_init_103 (by decide) (fun c103 => ?_) (fun c103 => absurd c103 (by omega))
    obtain ⟨t1, t2, ht⟩ := id hT
    refine x_aload_n C dX4_init_126 rfl ?_
    refine x_get C dX4_init_127 kfX4_12 x0 rfl ?_
    refine x_aload_n C dX4_init_130 rfl ?_
    refine x_get C dX4_init_131 kfX4_19 x0 rfl ?_
    refine y_i1 C dX4_init_134 kyX3_readInto knX3_readInto kmX4_67 ht.o (c_X3_readInto l hT (by omega) hF) (by decide) (Nat.le_refl _) (Nat.le_refl _) (Nat.le_of_ble_eq_true rfl) (fun z134 w134 q134 => ?_)
    obtain ⟨hr2, hT, qz, qF, qA⟩ := q134
    obtain ⟨w9, hfa, hfb⟩ := hr2.split
    rw [rd30] at qz qF
    have hF : isF w134 (h + 4) F30 := qF qz
    have x0 := (hfb _ (by omega)).trans ((hfa _ (by omega)).trans x0)
    have hU := (hU.fr hfa (by omega)).fr hfb (by omega)
    have hK := (hK.fr hfa (by omega)).fr hfb (by omega)
    have hA := (hA.fr hfa (by omega)).fr hfb (by omega)
    have hB := (hB.fr hfa (by omega)).fr hfb (by omega)
    have hR := (hR.fr hfa (by omega)).fr hfb (by omega)
    have hZ := (hZ.fr hfa (by omega)).fr hfb (by omega)
    have hfA := (hfA.tr (hfa.wd (by omega) (by omega))).tr (hfb.wd (by omega) (by omega))
    refine x_pop C dX4_init_137 rfl ?_
    refine x_aload_n C dX4_init_138 rfl ?_
    refine x_get C dX4_init_139 kfX4_12 x0 rfl ?_
    refine x_iconst C dX4_init_142 ⟨by decide, by decide⟩ ?_
    obtain ⟨t1, t2, ht⟩ := id hT
    have hf0 : frR w134 w134 (h + 1) (h + 1 + 2) := frR.rf
    refine x_put C dX4_init_143 kfX4_71 kw_3_1 rfl rfl ht.o (Nat.le_of_ble_eq_true rfl) ?_
    refine ab_T_tl ht hf0 (fun w2 ht hf0 => ?_)
    have hT : isTx w2 (h + 1) [] := ⟨_, _, ht⟩
    have x0 := (hf0 _ (by omega)).trans x0
    have hF := hF.fr hf0 (by omega)
    have hU := hU.fr hf0 (by omega)
    have hK := hK.fr hf0 (by omega)
    have hA := hA.fr hf0 (by omega)
    have hB := hB.fr hf0 (by omega)
    have hR := hR.fr hf0 (by omega)
    have hZ := hZ.fr hf0 (by omega)
    have hfA := hfA.tr (hf0.wd (by omega) (by omega))
    obtain ⟨_, _, _, _, _, _, _, _, _, _, hc⟩ := id hA
    refine x_aload_n C dX4_init_146 rfl ?_
    refine x_get C dX4_init_147 kfX4_38 x0 rfl ?_
    refine x_aload_n C dX4_init_150 rfl ?_
    refine x_get C dX4_init_151 kfX4_19 x0 rfl ?_
    refine y_i1 C dX4_init_154 kyX1_draw knX1_draw kmX4_74 hc.o (c_X1_draw l hc hF (by omega) wf_F30) (by decide) (Nat.le_refl _) (Nat.le_refl _) (Nat.le_of_ble_eq_true rfl) (fun z154 w154 q154 => ?_)
    obtain ⟨-, hA, hfc⟩ := q154
    have hA : isScr w154 (h + 85) (scr F30) := hA
    have x0 := (hfc _ (by omega)).trans x0
    have hT := hT.fr hfc (by omega)
    have hF := hF.fr hfc (by omega)
    have hU := hU.fr hfc (by omega)
    have hK := hK.fr hfc (by omega)
    have hB := hB.fr hfc (by omega)
    have hR := hR.fr hfc (by omega)
    have hZ := hZ.fr hfc (by omega)
    have hfA := hfA.tr (hfc.wd (by omega) (by omega))
    refine x_pop C dX4_init_157 rfl ?_
    refine x_vret C hQ dX4_init_158 (Nat.le_refl _) (Nat.le_refl _) ?_
    exact ⟨rfl, rfl, ⟨wf_D30, h + 85, h + 93, 0, Or.inl ⟨rfl, rfl⟩, x0, hT, hF, hU, hK, hA, ⟨rfl, hB⟩, hR, hZ⟩, hfA⟩
  | succ m ih =>
    intro i w hi x0 hT hF hU hK hA hB hR hZ hfA
    have hl9 : (txt0.take i).length = i := by rw [List.length_take, txt0_len]; omega
    refine x_iload_n C dX4_init_97 rfl ?_
    refine x_ldcS C hE dX4_init_98 ?_
    refine x_callVE C hE dX4_init_100 kyJ0_length_8abf5 rfl kn1J0_length_8abf5 kn2J0_length_8abf5 kmS_RX4_53 (c_J0_length_8abf5 l) (As := []) rfl (by decide) (Nat.le_refl _) (Nat.le_refl _) (Nat.le_of_ble_eq_true rfl) rfl ?_
    rintro r n' w' ⟨rfl, rfl, rfl⟩
    refine x_icmp_ge (tgt := 126) C dX4_init_103 (by decide) (fun c103 => absurd c103 (by omega)) (fun c103 => ?_)
    obtain ⟨t1, t2, ht⟩ := id hT
    refine x_aload_n C dX4_init_106 rfl ?_
    refine x_get C dX4_init_107 kfX4_12 x0 rfl ?_
    refine x_ldcS C hE dX4_init_110 ?_
    refine x_iload_n C dX4_init_112 rfl ?_
    refine x_callVE C hE dX4_init_113 kyJ0_charAt_5068e rfl kn1J0_charAt_5068e kn2J0_charAt_5068e kmS_RX4_59 (c_J0_charAt_5068e l ⟨by omega, by omega⟩) (As := [vi (i : Int)]) rfl (by decide) (Nat.le_refl _) (Nat.le_refl _) (Nat.le_of_ble_eq_true rfl) rfl ?_
    rintro r n' w' ⟨rfl, rfl, rfl⟩
    refine y_i1 C dX4_init_116 kyX3_append knX3_append kmX4_63 ht.o (c_X3_append l hT (txt0.getD (i : Int).toNat 0)) (by decide) (Nat.le_refl _) (Nat.le_refl _) (Nat.le_of_ble_eq_true rfl) (fun z116 w116 q116 => ?_)
    obtain ⟨-, -, hT, hfa⟩ := q116
    rw [if_pos (by omega), Int.toNat_natCast, txt0_take i (by omega)] at hT
    have x0 := (hfa _ (by omega)).trans x0
    have hF := hF.fr hfa (by omega)
    have hU := hU.fr hfa (by omega)
    have hK := hK.fr hfa (by omega)
    have hA := hA.fr hfa (by omega)
    have hB := hB.fr hfa (by omega)
    have hR := hR.fr hfa (by omega)
    have hZ := hZ.fr hfa (by omega)
    have hfA := hfA.tr (hfa.wd (by omega) (by omega))
    refine x_pop C dX4_init_119 rfl ?_
    refine s_inc2_1 C dX4_init_120 rfl (by unfold iR; omega) ?_
    refine x_goto (tgt := 97) C dX4_init_123 (by decide) ?_
    rw [show (i : Int) + 1 = ((i + 1 : Nat) : Int) by omega]
    exact ih (i + 1) w116 (by omega) x0 hT hF hU hK hA hB hR hZ hfA

set_option maxHeartbeats 1000000 in
set_option maxRecDepth 100000 in
theorem c_X4_init (l : Launch) {q v : Nat} {fm : Option Nat} {w : mW} {h n : Nat} (hn : n = h + 1) (x0 : w h = some (co 4 [vn, vn, vn, vn, vn, vn, vi 0, vn, vn])) : CtE q v fm l yX4_init cX4_init 2 none 5 115 2056 [vr h] n w (fun r n' w' => r = none ∧ n' = h + 116 ∧ isX w' h D30 ∧ frR w w' h (h + 115)) := by
  subst hn
  refine CtE.ofN kyX4_init rfl (Nat.le_of_ble_eq_true rfl) ?_
  intro t C hQ hN hE
  show J t 0 0 0 [some (vr h), none] [] (h + 1) w
  refine x_aload_n C dX4_init_0 rfl ?_
  refine x_objInit C dX4_init_1 gk_obj_X4 gk_obj1 gk_obj2 (by decide) (by decide) ?_
  refine x_aload_n C dX4_init_4 rfl ?_
  refine x_new C dX4_init_5 (ci := 3) (N := 3) (Cn := RX3) (T := TX3) (ty := tyX3) (fs := [vn, vi 0, vn]) rfl gX3_in tyX3_ok gk_cl_X4_9 gk_in_X3 gk_ini_X3 dfX3 dkX3 (Nat.le_of_ble_eq_true rfl) (Nat.le_of_ble_eq_true rfl) ?_
  refine x_dup C dX4_init_8 rfl ?_
  refine x_callI C dX4_init_9 kyX3_init rfl kiX3_init kmX4_11 (c_X3_init l (h := h + 1) rfl (mu_eq _ _ _)) (As := []) rfl (by decide) (Nat.le_of_ble_eq_true rfl) (Nat.le_of_ble_eq_true rfl) (Nat.le_of_ble_eq_true rfl) rfl ?_
  rintro r n' w' ⟨rfl, rfl, hS, hf2⟩
  have hfa : frR w w' (h + 1) (h + 3) := fun a ha => (hf2 a (by omega)).trans (mu_ne _ _ (by omega))
  have x0 := (hfa _ (by omega)).trans x0
  have hT : isTx w' (h + 1) [] := ⟨_, _, hS⟩
  refine x_putF C hN dX4_init_12 kfX4_12 kx_4_0 (by decide +kernel) rfl rfl x0 (Nat.le_of_ble_eq_true rfl) ?_
  refine x_hide (n := h + 4) (fun w1 => w1 h = some (co 4 [vr (h + 1), vn, vn, vn, vn, vn, vi 0, vn, vn]) ∧ isTx w1 (h + 1) [] ∧ frR w w1 h (h + 115)) ⟨mu_eq _ _ _, hT.fr (lo := h) (up := h) (fun a ha => mu_ne _ _ (by omega)) (by omega), fun a ha => by rw [mu_ne _ _ (by omega), hfa a (by omega)]⟩ ?_
  rintro w1 ⟨x0, hT, hfA⟩
  refine x_aload_n C dX4_init_15 rfl ?_
  refine x_new C dX4_init_16 (ci := 2) (N := 13) (Cn := RX2) (T := TX2) (ty := tyX2) (fs := [vn, vi 0, vn, vn, vn, vi 0, vn, vn, vi 0, vi 0, vi 0, vi 0, vi 0]) rfl gX2_in tyX2_ok gk_cl_X4_16 gk_in_X2 gk_ini_X2 dfX2 dkX2 (Nat.le_of_ble_eq_true rfl) (Nat.le_of_ble_eq_true rfl) ?_
  refine x_dup C dX4_init_19 rfl ?_
  refine x_callI C dX4_init_20 kyX2_init rfl kiX2_init kmX4_18 (c_X2_init l (h := h + 4) rfl (mu_eq _ _ _)) (As := []) rfl (by decide) (Nat.le_of_ble_eq_true rfl) (Nat.le_of_ble_eq_true rfl) (Nat.le_of_ble_eq_true rfl) rfl ?_
  rintro r n' w' ⟨rfl, rfl, hS, hf2⟩
  have hfa : frR w1 w' (h + 4) (h + 10) := fun a ha => (hf2 a (by omega)).trans (mu_ne _ _ (by omega))
  have x0 := (hfa _ (by omega)).trans x0
  have hT := hT.fr hfa (by omega)
  have hF : anySh w' (h + 4) := ⟨_, _, _, _, _, _, _, _, _, _, _, _, _, hS⟩
  refine x_putF C hN dX4_init_23 kfX4_19 kx_4_1 (by decide +kernel) rfl rfl x0 (Nat.le_of_ble_eq_true rfl) ?_
  refine x_hide (n := h + 11) (fun w1 => w1 h = some (co 4 [vr (h + 1), vr (h + 4), vn, vn, vn, vn, vi 0, vn, vn]) ∧ isTx w1 (h + 1) [] ∧ anySh w1 (h + 4) ∧ frR w w1 h (h + 115)) ⟨mu_eq _ _ _, hT.fr (lo := h) (up := h) (fun a ha => mu_ne _ _ (by omega)) (by omega), hF.fr (lo := h) (up := h) (fun a ha => mu_ne _ _ (by omega)) (by omega), fun a ha => by rw [mu_ne _ _ (by omega), hfa a (by omega), hfA a ha]⟩ ?_
  rintro w1 ⟨x0, hT, hF, hfA⟩
  refine x_aload_n C dX4_init_26 rfl ?_
  refine x_new C dX4_init_27 (ci := 0) (N := 2) (Cn := RX0) (T := TX0) (ty := tyX0) (fs := [vn, vi 0]) rfl gX0_in tyX0_ok gk_cl_X4_23 gk_in_X0 gk_ini_X0 dfX0 dkX0 (Nat.le_of_ble_eq_true rfl) (Nat.le_of_ble_eq_true rfl) ?_
  refine x_dup C dX4_init_30 rfl ?_
  refine x_bipush C dX4_init_31 ⟨by decide, by decide⟩ ?_
  refine x_callI C dX4_init_33 kyX0_init rfl kiX0_init kmX4_25 (c_X0_init l (h := h + 11) (N := 8) rfl (by decide) (mu_eq _ _ _)) (As := [vi 8]) rfl (by decide) (Nat.le_of_ble_eq_true rfl) (Nat.le_of_ble_eq_true rfl) (Nat.le_of_ble_eq_true rfl) rfl ?_
  rintro r n' w' ⟨rfl, rfl, hS, hf2⟩
  have hfa : frR w1 w' (h + 11) (h + 68) := fun a ha => (hf2 a (by omega)).trans (mu_ne _ _ (by omega))
  have x0 := (hfa _ (by omega)).trans x0
  have hT := hT.fr hfa (by omega)
  have hF := hF.fr hfa (by omega)
  have hU : isPi w' (h + 11) 8 [] := hS
  refine x_putF C hN dX4_init_36 kfX4_28 kx_4_2 (by decide +kernel) rfl rfl x0 (Nat.le_of_ble_eq_true rfl) ?_
  refine x_hide (n := h + 69) (fun w1 => w1 h = some (co 4 [vr (h + 1), vr (h + 4), vr (h + 11), vn, vn, vn, vi 0, vn, vn]) ∧ isTx w1 (h + 1) [] ∧ anySh w1 (h + 4) ∧ isPi w1 (h + 11) 8 [] ∧ frR w w1 h (h + 115)) ⟨mu_eq _ _ _, hT.fr (lo := h) (up := h) (fun a ha => mu_ne _ _ (by omega)) (by omega), hF.fr (lo := h) (up := h) (fun a ha => mu_ne _ _ (by omega)) (by omega), hU.fr (lo := h) (up := h) (fun a ha => mu_ne _ _ (by omega)) (by omega), fun a ha => by rw [mu_ne _ _ (by omega), hfa a (by omega), hfA a ha]⟩ ?_
  rintro w1 ⟨x0, hT, hF, hU, hfA⟩
  refine x_aload_n C dX4_init_39 rfl ?_
  refine x_new C dX4_init_40 (ci := 0) (N := 2) (Cn := RX0) (T := TX0) (ty := tyX0) (fs := [vn, vi 0]) rfl gX0_in tyX0_ok gk_cl_X4_23 gk_in_X0 gk_ini_X0 dfX0 dkX0 (Nat.le_of_ble_eq_true rfl) (Nat.le_of_ble_eq_true rfl) ?_
  refine x_dup C dX4_init_43 rfl ?_
  refine x_iconst C dX4_init_44 ⟨by decide, by decide⟩ ?_
  refine x_callI C dX4_init_45 kyX0_init rfl kiX0_init kmX4_25 (c_X0_init l (h := h + 69) (N := 2) rfl (by decide) (mu_eq _ _ _)) (As := [vi 2]) rfl (by decide) (Nat.le_of_ble_eq_true rfl) (Nat.le_of_ble_eq_true rfl) (Nat.le_of_ble_eq_true rfl) rfl ?_
  rintro r n' w' ⟨rfl, rfl, hS, hf2⟩
  have hfa : frR w1 w' (h + 69) (h + 84) := fun a ha => (hf2 a (by omega)).trans (mu_ne _ _ (by omega))
  have x0 := (hfa _ (by omega)).trans x0
  have hT := hT.fr hfa (by omega)
  have hF := hF.fr hfa (by omega)
  have hU := hU.fr hfa (by omega)
  have hK : isPi w' (h + 69) 2 [] := hS
  refine x_putF C hN dX4_init_48 kfX4_32 kx_4_3 (by decide +kernel) rfl rfl x0 (Nat.le_of_ble_eq_true rfl) ?_
  refine x_hide (n := h + 85) (fun w1 => w1 h = some (co 4 [vr (h + 1), vr (h + 4), vr (h + 11), vr (h + 69), vn, vn, vi 0, vn, vn]) ∧ isTx w1 (h + 1) [] ∧ anySh w1 (h + 4) ∧ isPi w1 (h + 11) 8 [] ∧ isPi w1 (h + 69) 2 [] ∧ frR w w1 h (h + 115)) ⟨mu_eq _ _ _, hT.fr (lo := h) (up := h) (fun a ha => mu_ne _ _ (by omega)) (by omega), hF.fr (lo := h) (up := h) (fun a ha => mu_ne _ _ (by omega)) (by omega), hU.fr (lo := h) (up := h) (fun a ha => mu_ne _ _ (by omega)) (by omega), hK.fr (lo := h) (up := h) (fun a ha => mu_ne _ _ (by omega)) (by omega), fun a ha => by rw [mu_ne _ _ (by omega), hfa a (by omega), hfA a ha]⟩ ?_
  rintro w1 ⟨x0, hT, hF, hU, hK, hfA⟩
  refine x_aload_n C dX4_init_51 rfl ?_
  refine x_new C dX4_init_52 (ci := 1) (N := 10) (Cn := RX1) (T := TX1) (ty := tyX1) (fs := [vn, vn, vn, vn, vn, vi 0, vn, vn, vi 0, vi 0]) rfl gX1_in tyX1_ok gk_cl_X4_35 gk_in_X1 gk_ini_X1 dfX1 dkX1 (Nat.le_of_ble_eq_true rfl) (Nat.le_of_ble_eq_true rfl) ?_
  refine x_dup C dX4_init_55 rfl ?_
  refine x_callI C dX4_init_56 kyX1_init rfl kiX1_init kmX4_37 (c_X1_init l (h := h + 85) rfl (mu_eq _ _ _)) (As := []) rfl (by decide) (Nat.le_of_ble_eq_true rfl) (Nat.le_of_ble_eq_true rfl) (Nat.le_of_ble_eq_true rfl) rfl ?_
  rintro r n' w' ⟨rfl, rfl, hS, hf2⟩
  have hfa : frR w1 w' (h + 85) (h + 92) := fun a ha => (hf2 a (by omega)).trans (mu_ne _ _ (by omega))
  have x0 := (hfa _ (by omega)).trans x0
  have hT := hT.fr hfa (by omega)
  have hF := hF.fr hfa (by omega)
  have hU := hU.fr hfa (by omega)
  have hK := hK.fr hfa (by omega)
  have hA : anySc w' (h + 85) := ⟨_, _, _, _, _, _, _, _, _, _, hS⟩
  refine x_put C dX4_init_59 kfX4_38 kw_4_4 rfl rfl x0 (Nat.le_of_ble_eq_true rfl) ?_
  refine x_hide (n := h + 93) (fun w1 => w1 h = some (co 4 [vr (h + 1), vr (h + 4), vr (h + 11), vr (h + 69), vr (h + 85), vn, vi 0, vn, vn]) ∧ isTx w1 (h + 1) [] ∧ anySh w1 (h + 4) ∧ isPi w1 (h + 11) 8 [] ∧ isPi w1 (h + 69) 2 [] ∧ anySc w1 (h + 85) ∧ frR w w1 h (h + 115)) ⟨mu_eq _ _ _, hT.fr (lo := h) (up := h) (fun a ha => mu_ne _ _ (by omega)) (by omega), hF.fr (lo := h) (up := h) (fun a ha => mu_ne _ _ (by omega)) (by omega), hU.fr (lo := h) (up := h) (fun a ha => mu_ne _ _ (by omega)) (by omega), hK.fr (lo := h) (up := h) (fun a ha => mu_ne _ _ (by omega)) (by omega), hA.fr (lo := h) (up := h) (fun a ha => mu_ne _ _ (by omega)) (by omega), fun a ha => by rw [mu_ne _ _ (by omega), hfa a (by omega), hfA a ha]⟩ ?_
  rintro w1 ⟨x0, hT, hF, hU, hK, hA, hfA⟩
  refine x_aload_n C dX4_init_62 rfl ?_
  refine x_new C dX4_init_63 (ci := 1) (N := 10) (Cn := RX1) (T := TX1) (ty := tyX1) (fs := [vn, vn, vn, vn, vn, vi 0, vn, vn, vi 0, vi 0]) rfl gX1_in tyX1_ok gk_cl_X4_35 gk_in_X1 gk_ini_X1 dfX1 dkX1 (Nat.le_of_ble_eq_true rfl) (Nat.le_of_ble_eq_true rfl) ?_
  refine x_dup C dX4_init_66 rfl ?_
  refine x_callI C dX4_init_67 kyX1_init rfl kiX1_init kmX4_37 (c_X1_init l (h := h + 93) rfl (mu_eq _ _ _)) (As := []) rfl (by decide) (Nat.le_of_ble_eq_true rfl) (Nat.le_of_ble_eq_true rfl) (Nat.le_of_ble_eq_true rfl) rfl ?_
  rintro r n' w' ⟨rfl, rfl, hS, hf2⟩
  have hfa : frR w1 w' (h + 93) (h + 100) := fun a ha => (hf2 a (by omega)).trans (mu_ne _ _ (by omega))
  have x0 := (hfa _ (by omega)).trans x0
  have hT := hT.fr hfa (by omega)
  have hF := hF.fr hfa (by omega)
  have hU := hU.fr hfa (by omega)
  have hK := hK.fr hfa (by omega)
  have hA := hA.fr hfa (by omega)
  have hB : anySc w' (h + 93) := ⟨_, _, _, _, _, _, _, _, _, _, hS⟩
  refine x_put C dX4_init_70 kfX4_42 kw_4_5 rfl rfl x0 (Nat.le_of_ble_eq_true rfl) ?_
  refine x_hide (n := h + 101) (fun w1 => w1 h = some (co 4 [vr (h + 1), vr (h + 4), vr (h + 11), vr (h + 69), vr (h + 85), vr (h + 93), vi 0, vn, vn]) ∧ isTx w1 (h + 1) [] ∧ anySh w1 (h + 4) ∧ isPi w1 (h + 11) 8 [] ∧ isPi w1 (h + 69) 2 [] ∧ anySc w1 (h + 85) ∧ anySc w1 (h + 93) ∧ frR w w1 h (h + 115)) ⟨mu_eq _ _ _, hT.fr (lo := h) (up := h) (fun a ha => mu_ne _ _ (by omega)) (by omega), hF.fr (lo := h) (up := h) (fun a ha => mu_ne _ _ (by omega)) (by omega), hU.fr (lo := h) (up := h) (fun a ha => mu_ne _ _ (by omega)) (by omega), hK.fr (lo := h) (up := h) (fun a ha => mu_ne _ _ (by omega)) (by omega), hA.fr (lo := h) (up := h) (fun a ha => mu_ne _ _ (by omega)) (by omega), hB.fr (lo := h) (up := h) (fun a ha => mu_ne _ _ (by omega)) (by omega), fun a ha => by rw [mu_ne _ _ (by omega), hfa a (by omega), hfA a ha]⟩ ?_
  rintro w1 ⟨x0, hT, hF, hU, hK, hA, hB, hfA⟩
  refine x_aload_n C dX4_init_73 rfl ?_
  refine x_new C dX4_init_74 (ci := 2) (N := 13) (Cn := RX2) (T := TX2) (ty := tyX2) (fs := [vn, vi 0, vn, vn, vn, vi 0, vn, vn, vi 0, vi 0, vi 0, vi 0, vi 0]) rfl gX2_in tyX2_ok gk_cl_X4_16 gk_in_X2 gk_ini_X2 dfX2 dkX2 (Nat.le_of_ble_eq_true rfl) (Nat.le_of_ble_eq_true rfl) ?_
  refine x_dup C dX4_init_77 rfl ?_
  refine x_callI C dX4_init_78 kyX2_init rfl kiX2_init kmX4_18 (c_X2_init l (h := h + 101) rfl (mu_eq _ _ _)) (As := []) rfl (by decide) (Nat.le_of_ble_eq_true rfl) (Nat.le_of_ble_eq_true rfl) (Nat.le_of_ble_eq_true rfl) rfl ?_
  rintro r n' w' ⟨rfl, rfl, hS, hf2⟩
  have hfa : frR w1 w' (h + 101) (h + 107) := fun a ha => (hf2 a (by omega)).trans (mu_ne _ _ (by omega))
  have x0 := (hfa _ (by omega)).trans x0
  have hT := hT.fr hfa (by omega)
  have hF := hF.fr hfa (by omega)
  have hU := hU.fr hfa (by omega)
  have hK := hK.fr hfa (by omega)
  have hA := hA.fr hfa (by omega)
  have hB := hB.fr hfa (by omega)
  have hR : anySh w' (h + 101) := ⟨_, _, _, _, _, _, _, _, _, _, _, _, _, hS⟩
  refine x_putF C hN dX4_init_81 kfX4_45 kx_4_7 (by decide +kernel) rfl rfl x0 (Nat.le_of_ble_eq_true rfl) ?_
  refine x_hide (n := h + 108) (fun w1 => w1 h = some (co 4 [vr (h + 1), vr (h + 4), vr (h + 11), vr (h + 69), vr (h + 85), vr (h + 93), vi 0, vr (h + 101), vn]) ∧ isTx w1 (h + 1) [] ∧ anySh w1 (h + 4) ∧ isPi w1 (h + 11) 8 [] ∧ isPi w1 (h + 69) 2 [] ∧ anySc w1 (h + 85) ∧ anySc w1 (h + 93) ∧ anySh w1 (h + 101) ∧ frR w w1 h (h + 115)) ⟨mu_eq _ _ _, hT.fr (lo := h) (up := h) (fun a ha => mu_ne _ _ (by omega)) (by omega), hF.fr (lo := h) (up := h) (fun a ha => mu_ne _ _ (by omega)) (by omega), hU.fr (lo := h) (up := h) (fun a ha => mu_ne _ _ (by omega)) (by omega), hK.fr (lo := h) (up := h) (fun a ha => mu_ne _ _ (by omega)) (by omega), hA.fr (lo := h) (up := h) (fun a ha => mu_ne _ _ (by omega)) (by omega), hB.fr (lo := h) (up := h) (fun a ha => mu_ne _ _ (by omega)) (by omega), hR.fr (lo := h) (up := h) (fun a ha => mu_ne _ _ (by omega)) (by omega), fun a ha => by rw [mu_ne _ _ (by omega), hfa a (by omega), hfA a ha]⟩ ?_
  rintro w1 ⟨x0, hT, hF, hU, hK, hA, hB, hR, hfA⟩
  refine x_aload_n C dX4_init_84 rfl ?_
  refine x_new C dX4_init_85 (ci := 1) (N := 10) (Cn := RX1) (T := TX1) (ty := tyX1) (fs := [vn, vn, vn, vn, vn, vi 0, vn, vn, vi 0, vi 0]) rfl gX1_in tyX1_ok gk_cl_X4_35 gk_in_X1 gk_ini_X1 dfX1 dkX1 (Nat.le_of_ble_eq_true rfl) (Nat.le_of_ble_eq_true rfl) ?_
  refine x_dup C dX4_init_88 rfl ?_
  refine x_callI C dX4_init_89 kyX1_init rfl kiX1_init kmX4_37 (c_X1_init l (h := h + 108) rfl (mu_eq _ _ _)) (As := []) rfl (by decide) (Nat.le_of_ble_eq_true rfl) (Nat.le_of_ble_eq_true rfl) (Nat.le_of_ble_eq_true rfl) rfl ?_
  rintro r n' w' ⟨rfl, rfl, hS, hf2⟩
  have hfa : frR w1 w' (h + 108) (h + 115) := fun a ha => (hf2 a (by omega)).trans (mu_ne _ _ (by omega))
  have x0 := (hfa _ (by omega)).trans x0
  have hT := hT.fr hfa (by omega)
  have hF := hF.fr hfa (by omega)
  have hU := hU.fr hfa (by omega)
  have hK := hK.fr hfa (by omega)
  have hA := hA.fr hfa (by omega)
  have hB := hB.fr hfa (by omega)
  have hR := hR.fr hfa (by omega)
  have hZ : anySc w' (h + 108) := ⟨_, _, _, _, _, _, _, _, _, _, hS⟩
  refine x_putF C hN dX4_init_92 kfX4_48 kx_4_8 (by decide +kernel) rfl rfl x0 (Nat.le_of_ble_eq_true rfl) ?_
  refine x_hide (n := h + 116) (fun w1 => w1 h = some (co 4 [vr (h + 1), vr (h + 4), vr (h + 11), vr (h + 69), vr (h + 85), vr (h + 93), vi 0, vr (h + 101), vr (h + 108)]) ∧ isTx w1 (h + 1) [] ∧ anySh w1 (h + 4) ∧ isPi w1 (h + 11) 8 [] ∧ isPi w1 (h + 69) 2 [] ∧ anySc w1 (h + 85) ∧ anySc w1 (h + 93) ∧ anySh w1 (h + 101) ∧ anySc w1 (h + 108) ∧ frR w w1 h (h + 115)) ⟨mu_eq _ _ _, hT.fr (lo := h) (up := h) (fun a ha => mu_ne _ _ (by omega)) (by omega), hF.fr (lo := h) (up := h) (fun a ha => mu_ne _ _ (by omega)) (by omega), hU.fr (lo := h) (up := h) (fun a ha => mu_ne _ _ (by omega)) (by omega), hK.fr (lo := h) (up := h) (fun a ha => mu_ne _ _ (by omega)) (by omega), hA.fr (lo := h) (up := h) (fun a ha => mu_ne _ _ (by omega)) (by omega), hB.fr (lo := h) (up := h) (fun a ha => mu_ne _ _ (by omega)) (by omega), hR.fr (lo := h) (up := h) (fun a ha => mu_ne _ _ (by omega)) (by omega), hZ.fr (lo := h) (up := h) (fun a ha => mu_ne _ _ (by omega)) (by omega), fun a ha => by rw [mu_ne _ _ (by omega), hfa a (by omega), hfA a ha]⟩ ?_
  rintro w1 ⟨x0, hT, hF, hU, hK, hA, hB, hR, hZ, hfA⟩
  refine x_iconst C dX4_init_95 ⟨by decide, by decide⟩ ?_
  refine s_ist2_1 C dX4_init_96 rfl ?_
  exact lp_X4_init C hE hQ 65 0 w1 (by omega) x0 hT hF hU hK hA hB hR hZ hfA
