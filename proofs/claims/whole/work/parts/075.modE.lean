/-! ===== the reference: notes ===== -/
theorem gd_ne {L : List Int} {i j : Nat} {x : Int} (h : i ≠ j) : (L.set i x).getD j 0 = L.getD j 0 := by
  simp [List.getD, List.getElem?_set_ne h]
def noteR (L : List Int) (b : Nat) (mn fc hc mo wi nd tb : Int) (A1 A2 A3 A4 A5 A6 : List Int) : Prop := (L.getD b 0 = mn ∧ L.getD (b + 1) 0 = fc ∧ L.getD (b + 2) 0 = hc ∧ L.getD (b + 3) 0 = mo ∧ L.getD (b + 4) 0 = wi ∧ L.getD (b + 5) 0 = nd ∧ L.getD (b + 6) 0 = tb) ∧ (∀ k, k < 4 → L.getD (b + 7 + k) 0 = A2.getD k 0 ∧ L.getD (b + 11 + k) 0 = A3.getD k 0 ∧ L.getD (b + 15 + k) 0 = A4.getD k 0 ∧ L.getD (b + 19 + k) 0 = A5.getD k 0 ∧ L.getD (b + 23 + k) 0 = A6.getD k 0) ∧ ∀ k, k < 40 → L.getD (b + 27 + k) 0 = A1.getD k 0
def noteF (L : List Int) (b : Nat) (F : mF) : Prop := (L.getD b 0 = F.1.1.length ∧ L.getD (b + 1) 0 = F.1.2.1.length ∧ L.getD (b + 2) 0 = F.1.2.2.length ∧ L.getD (b + 3) 0 = F.2.1 ∧ L.getD (b + 4) 0 = F.2.2.1 ∧ L.getD (b + 5) 0 = F.2.2.2.1 ∧ L.getD (b + 6) 0 = F.2.2.2.2) ∧ (∀ k, k < F.1.2.1.length → L.getD (b + 7 + k) 0 = (F.1.2.1.map (fun f => f.1)).getD k 0 ∧ L.getD (b + 11 + k) 0 = (F.1.2.1.map (fun f => f.2.1)).getD k 0 ∧ L.getD (b + 15 + k) 0 = (F.1.2.1.map (fun f => f.2.2)).getD k 0) ∧ (∀ k, k < F.1.2.2.length → L.getD (b + 19 + k) 0 = (F.1.2.2.map (fun f => f.1)).getD k 0 ∧ L.getD (b + 23 + k) 0 = (F.1.2.2.map (fun f => f.2)).getD k 0) ∧ ∀ k, k < F.1.1.length → L.getD (b + 27 + k) 0 = F.1.1.getD k 0
theorem noteF.eqv {L L' : List Int} {b b' : Nat} {F : mF} (h : noteF L b F) (hn : F.1.1.length ≤ 40 ∧ F.1.2.1.length ≤ 4 ∧ F.1.2.2.length ≤ 4) (he : ∀ i, i < 67 → L'.getD (b' + i) 0 = L.getD (b + i) 0) : noteF L' b' F := by
  obtain ⟨⟨a1, a2, a3, a4, a5, a6, a7⟩, h2, h3, h4⟩ := h
  refine ⟨⟨(he 0 (by omega)).trans a1, (he 1 (by omega)).trans a2, (he 2 (by omega)).trans a3, (he 3 (by omega)).trans a4, (he 4 (by omega)).trans a5, (he 5 (by omega)).trans a6, (he 6 (by omega)).trans a7⟩, fun k hk => ?_, fun k hk => ?_, fun k hk => ?_⟩
  · have e1 := he (7 + k) (by omega)
    have e2 := he (11 + k) (by omega)
    have e3 := he (15 + k) (by omega)
    simp only [← Nat.add_assoc] at e1 e2 e3
    exact ⟨e1.trans (h2 k hk).1, e2.trans (h2 k hk).2.1, e3.trans (h2 k hk).2.2⟩
  · have e1 := he (19 + k) (by omega)
    have e2 := he (23 + k) (by omega)
    simp only [← Nat.add_assoc] at e1 e2
    exact ⟨e1.trans (h3 k hk).1, e2.trans (h3 k hk).2⟩
  · have e1 := he (27 + k) (by omega)
    simp only [← Nat.add_assoc] at e1
    exact e1.trans (h4 k hk)
theorem noteR.f {L : List Int} {b : Nat} {F : mF} {j1 j2 j3 j4 j5 j6 : List Int} (hn : F.1.1.length ≤ 40 ∧ F.1.2.1.length ≤ 4 ∧ F.1.2.2.length ≤ 4) (h : noteR L b F.1.1.length F.1.2.1.length F.1.2.2.length F.2.1 F.2.2.1 F.2.2.2.1 F.2.2.2.2 (F.1.1 ++ j1) (F.1.2.1.map (fun f => f.1) ++ j2) (F.1.2.1.map (fun f => f.2.1) ++ j3) (F.1.2.1.map (fun f => f.2.2) ++ j4) (F.1.2.2.map (fun q => q.1) ++ j5) (F.1.2.2.map (fun q => q.2) ++ j6)) : noteF L b F := by
  obtain ⟨h1, h2, h3⟩ := h
  refine ⟨h1, fun k hk => ?_, fun k hk => ?_, fun k hk => ?_⟩
  · obtain ⟨a1, a2, a3, a4, a5⟩ := h2 k (by omega)
    exact ⟨a1.trans (gd_app_l (by simpa using hk)), a2.trans (gd_app_l (by simpa using hk)), a3.trans (gd_app_l (by simpa using hk))⟩
  · obtain ⟨a1, a2, a3, a4, a5⟩ := h2 k (by omega)
    exact ⟨a4.trans (gd_app_l (by simpa using hk)), a5.trans (gd_app_l (by simpa using hk))⟩
  · exact (h3 k (by omega)).trans (gd_app_l hk)
theorem pre_of {A X : List Int} (hl : X.length ≤ A.length) (h : ∀ k, k < X.length → A.getD k 0 = X.getD k 0) : ∃ j, A = X ++ j := by
  refine ⟨A.drop X.length, ?_⟩
  have h1 : A.take X.length = X := by
    apply List.ext_getElem
    · rw [List.length_take]; omega
    · intro k h1 h2
      have h3 := h k h2
      rw [List.getD_eq_getElem?_getD, List.getD_eq_getElem?_getD, List.getElem?_eq_getElem (by omega), List.getElem?_eq_getElem h2] at h3
      simpa using h3
  rw [← h1, List.length_take, Nat.min_eq_left hl, List.take_append_drop]

set_option maxHeartbeats 1000000 in
set_option maxRecDepth 100000 in
theorem lp_X5_lays_1 {t : TX} {l : Launch} {n0 : Nat} {w : mW} {h : Nat} {mn fc hc mo wi nd tb pi lr lc um sm wp wr ac sz ra rn : Int} {M1 M2 M3 M4 M5 M6 M7 M8 M9 M10 M11 M12 M13 M14 M15 M16 M17 M18 M19 M20 M21 M22 M23 : List Int} (hr : rM w h mn fc hc mo wi nd tb pi lr lc um sm wp wr ac sz ra rn M1 M2 M3 M4 M5 M6 M7 M8 M9 M10 M11 M12 M13 M14 M15 M16 M17 M18 M19 M20 M21 M22 M23) {ad b : Nat} {B : Int} (hB : B = (b : Int)) (had : h + 14 ≤ ad) {L1 : List Int} {n9 : Nat} (hn9 : b + 67 ≤ n9) (hbn : b ≤ 1000) (C : Cb t l cX5_lays RX5 4 none 0 0 0)  (kx : ∀ (k : Int) (L : List Int), L.length = n9 → (∀ j, j < b + 7 ∨ b + 27 ≤ j → L.getD j 0 = L1.getD j 0) → (∀ k, k < 4 → L.getD (b + 7 + k) 0 = M2.getD k 0 ∧ L.getD (b + 11 + k) 0 = M3.getD k 0 ∧ L.getD (b + 15 + k) 0 = M4.getD k 0 ∧ L.getD (b + 19 + k) 0 = M5.getD k 0 ∧ L.getD (b + 23 + k) 0 = M6.getD k 0) → J t 0 0 145 [some (vr h), some (vr ad), some (vi B), some (vi k)] [] n0 (mu w ad (ca L))) : ∀ (m i : Nat) (k : Int) (L : List Int), i + m = 4 → k = i → (L.length = n9 ∧ (∀ j, j < b + 7 ∨ b + 27 ≤ j → L.getD j 0 = L1.getD j 0) ∧ ∀ k, k < i → L.getD (b + 7 + k) 0 = M2.getD k 0 ∧ L.getD (b + 11 + k) 0 = M3.getD k 0 ∧ L.getD (b + 15 + k) 0 = M4.getD k 0 ∧ L.getD (b + 19 + k) 0 = M5.getD k 0 ∧ L.getD (b + 23 + k) 0 = M6.getD k 0) → J t 0 0 64 [some (vr h), some (vr ad), some (vi B), some (vi k)] [] n0 (mu w ad (ca L)) := by
  have l1 := hr.l1
  have l2 := hr.l2
  have l3 := hr.l3
  have l4 := hr.l4
  have l5 := hr.l5
  have l6 := hr.l6
  intro m
  induction m with
  | zero =>
    intro i k L hm hk hi
    obtain ⟨i1, i2, i3⟩ := hi
    refine x_iload_n C dX5_lays_64 rfl ?_
    refine x_iconst C dX5_lays_65 ⟨by decide, by decide⟩ ?_
    refine x_icmp_ge (tgt := 145) C dX5_lays_66 (by decide) (fun c66 => ?_) (fun c66 => absurd c66 (by omega))
    exact kx k L i1 i2 (fun k9 hk9 => i3 k9 (by omega))
  | succ m ih =>
    intro i k L hm hk hi
    obtain ⟨i1, i2, i3⟩ := hi
    refine x_iload_n C dX5_lays_64 rfl ?_
    refine x_iconst C dX5_lays_65 ⟨by decide, by decide⟩ ?_
    refine x_icmp_ge (tgt := 145) C dX5_lays_66 (by decide) (fun c66 => absurd c66 (by omega)) (fun c66 => ?_)
    refine x_aload_n C dX5_lays_69 rfl ?_
    refine x_iload_n C dX5_lays_70 rfl ?_
    refine x_bipush C dX5_lays_71 ⟨by decide, by decide⟩ ?_
    refine x_iadd C dX5_lays_73 (by first | (unfold iR; omega) | exact ⟨by omega, by omega⟩) ?_
    refine x_iload_n C dX5_lays_74 rfl ?_
    refine x_iadd C dX5_lays_75 (by first | (unfold iR; omega) | exact ⟨by omega, by omega⟩) ?_
    refine x_aload_n C dX5_lays_76 rfl ?_
    refine x_get C dX5_lays_77 kfX5_13 ((mu_ne _ _ (by omega)).trans (hr.o)) rfl ?_
    refine x_iload_n C dX5_lays_80 rfl ?_
    refine x_iald C dX5_lays_81 ((mu_ne _ _ (by omega)).trans (hr.a2)) (by omega) (by first | omega | (simp only [List.length_set]; omega)) ?_
    refine x_iastU C dX5_lays_82 (by omega) (by first | omega | (simp only [List.length_set]; omega)) ?_
    rw [show (B + 7 + k).toNat = b + 7 + i by omega, show k.toNat = i by omega]
    refine x_aload_n C dX5_lays_83 rfl ?_
    refine x_iload_n C dX5_lays_84 rfl ?_
    refine x_bipush C dX5_lays_85 ⟨by decide, by decide⟩ ?_
    refine x_iadd C dX5_lays_87 (by first | (unfold iR; omega) | exact ⟨by omega, by omega⟩) ?_
    refine x_iload_n C dX5_lays_88 rfl ?_
    refine x_iadd C dX5_lays_89 (by first | (unfold iR; omega) | exact ⟨by omega, by omega⟩) ?_
    refine x_aload_n C dX5_lays_90 rfl ?_
    refine x_get C dX5_lays_91 kfX5_16 ((mu_ne _ _ (by omega)).trans (hr.o)) rfl ?_
    refine x_iload_n C dX5_lays_94 rfl ?_
    refine x_iald C dX5_lays_95 ((mu_ne _ _ (by omega)).trans (hr.a3)) (by omega) (by first | omega | (simp only [List.length_set]; omega)) ?_
    refine x_iastU C dX5_lays_96 (by omega) (by first | omega | (simp only [List.length_set]; omega)) ?_
    rw [show (B + 11 + k).toNat = b + 11 + i by omega, show k.toNat = i by omega]
    refine x_aload_n C dX5_lays_97 rfl ?_
    refine x_iload_n C dX5_lays_98 rfl ?_
    refine x_bipush C dX5_lays_99 ⟨by decide, by decide⟩ ?_
    refine x_iadd C dX5_lays_101 (by first | (unfold iR; omega) | exact ⟨by omega, by omega⟩) ?_
    refine x_iload_n C dX5_lays_102 rfl ?_
    refine x_iadd C dX5_lays_103 (by first | (unfold iR; omega) | exact ⟨by omega, by omega⟩) ?_
    refine x_aload_n C dX5_lays_104 rfl ?_
    refine x_get C dX5_lays_105 kfX5_19 ((mu_ne _ _ (by omega)).trans (hr.o)) rfl ?_
    refine x_iload_n C dX5_lays_108 rfl ?_
    refine x_iald C dX5_lays_109 ((mu_ne _ _ (by omega)).trans (hr.a4)) (by omega) (by first | omega | (simp only [List.length_set]; omega)) ?_
    refine x_iastU C dX5_lays_110 (by omega) (by first | omega | (simp only [List.length_set]; omega)) ?_
    rw [show (B + 15 + k).toNat = b + 15 + i by omega, show k.toNat = i by omega]
    refine x_aload_n C dX5_lays_111 rfl ?_
    refine x_iload_n C dX5_lays_112 rfl ?_
    refine x_bipush C dX5_lays_113 ⟨by decide, by decide⟩ ?_
    refine x_iadd C dX5_lays_115 (by first | (unfold iR; omega) | exact ⟨by omega, by omega⟩) ?_
    refine x_iload_n C dX5_lays_116 rfl ?_
    refine x_iadd C dX5_lays_117 (by first | (unfold iR; omega) | exact ⟨by omega, by omega⟩) ?_
    refine x_aload_n C dX5_lays_118 rfl ?_
    refine x_get C dX5_lays_119 kfX5_22 ((mu_ne _ _ (by omega)).trans (hr.o)) rfl ?_
    refine x_iload_n C dX5_lays_122 rfl ?_
    refine x_iald C dX5_lays_123 ((mu_ne _ _ (by omega)).trans (hr.a5)) (by omega) (by first | omega | (simp only [List.length_set]; omega)) ?_
    refine x_iastU C dX5_lays_124 (by omega) (by first | omega | (simp only [List.length_set]; omega)) ?_
    rw [show (B + 19 + k).toNat = b + 19 + i by omega, show k.toNat = i by omega]
    refine x_aload_n C dX5_lays_125 rfl ?_
    refine x_iload_n C dX5_lays_126 rfl ?_
    refine x_bipush C dX5_lays_127 ⟨by decide, by decide⟩ ?_
    refine x_iadd C dX5_lays_129 (by first | (unfold iR; omega) | exact ⟨by omega, by omega⟩) ?_
    refine x_iload_n C dX5_lays_130 rfl ?_
    refine x_iadd C dX5_lays_131 (by first | (unfold iR; omega) | exact ⟨by omega, by omega⟩) ?_
    refine x_aload_n C dX5_lays_132 rfl ?_
    refine x_get C dX5_lays_133 kfX5_25 ((mu_ne _ _ (by omega)).trans (hr.o)) rfl ?_
    refine x_iload_n C dX5_lays_136 rfl ?_
    refine x_iald C dX5_lays_137 ((mu_ne _ _ (by omega)).trans (hr.a6)) (by omega) (by first | omega | (simp only [List.length_set]; omega)) ?_
    refine x_iastU C dX5_lays_138 (by omega) (by first | omega | (simp only [List.length_set]; omega)) ?_
    rw [show (B + 23 + k).toNat = b + 23 + i by omega, show k.toNat = i by omega]
    refine s_inc4_3 C dX5_lays_139 rfl (by first | (unfold iR; omega) | exact ⟨by omega, by omega⟩) ?_
    refine x_goto (tgt := 64) C dX5_lays_142 (by decide) ?_
    refine ih (i + 1) (k + 1) _ (by omega) (by omega) ⟨by simp only [List.length_set]; exact i1, fun j hj => ?_, fun k9 hk9 => ?_⟩
    · rw [gd_ne (by omega), gd_ne (by omega), gd_ne (by omega), gd_ne (by omega), gd_ne (by omega)]; exact i2 j hj
    · by_cases h9 : k9 = i
      · subst h9
        refine ⟨?_, ?_, ?_, ?_, ?_⟩
        · rw [gd_ne (by omega), gd_ne (by omega), gd_ne (by omega), gd_ne (by omega), gd_setS _ (by first | omega | (simp only [List.length_set]; omega))]
        · rw [gd_ne (by omega), gd_ne (by omega), gd_ne (by omega), gd_setS _ (by first | omega | (simp only [List.length_set]; omega))]
        · rw [gd_ne (by omega), gd_ne (by omega), gd_setS _ (by first | omega | (simp only [List.length_set]; omega))]
        · rw [gd_ne (by omega), gd_setS _ (by first | omega | (simp only [List.length_set]; omega))]
        · rw [gd_setS _ (by first | omega | (simp only [List.length_set]; omega))]
      · obtain ⟨g1, g2, g3, g4, g5⟩ := i3 k9 (by omega)
        refine ⟨?_, ?_, ?_, ?_, ?_⟩
        · rw [gd_ne (by omega), gd_ne (by omega), gd_ne (by omega), gd_ne (by omega), gd_ne (by omega)]; exact g1
        · rw [gd_ne (by omega), gd_ne (by omega), gd_ne (by omega), gd_ne (by omega), gd_ne (by omega)]; exact g2
        · rw [gd_ne (by omega), gd_ne (by omega), gd_ne (by omega), gd_ne (by omega), gd_ne (by omega)]; exact g3
        · rw [gd_ne (by omega), gd_ne (by omega), gd_ne (by omega), gd_ne (by omega), gd_ne (by omega)]; exact g4
        · rw [gd_ne (by omega), gd_ne (by omega), gd_ne (by omega), gd_ne (by omega), gd_ne (by omega)]; exact g5

set_option maxHeartbeats 1000000 in
set_option maxRecDepth 100000 in
theorem lp_X5_lays_2 {t : TX} {l : Launch} {n0 : Nat} {w : mW} {h : Nat} {mn fc hc mo wi nd tb pi lr lc um sm wp wr ac sz ra rn : Int} {M1 M2 M3 M4 M5 M6 M7 M8 M9 M10 M11 M12 M13 M14 M15 M16 M17 M18 M19 M20 M21 M22 M23 : List Int} (hr : rM w h mn fc hc mo wi nd tb pi lr lc um sm wp wr ac sz ra rn M1 M2 M3 M4 M5 M6 M7 M8 M9 M10 M11 M12 M13 M14 M15 M16 M17 M18 M19 M20 M21 M22 M23) {ad b : Nat} {B : Int} (hB : B = (b : Int)) (had : h + 14 ≤ ad) {L1 : List Int} {n9 : Nat} (hn9 : b + 67 ≤ n9) (hbn : b ≤ 1000) (C : Cb t l cX5_lays RX5 4 none 0 0 0) {Q : mW → Prop} (hQ : RQ t 0 0 (fun r n' w' => n' = n0 ∧ r = none ∧ Q w')) (hfin : ∀ L : List Int, L.length = n9 → (∀ j, j < b + 27 ∨ b + 67 ≤ j → L.getD j 0 = L1.getD j 0) → (∀ k, k < 40 → L.getD (b + 27 + k) 0 = M1.getD k 0) → Q (mu w ad (ca L))) : ∀ (m i : Nat) (k : Int) (L : List Int), i + m = 40 → k = i → (L.length = n9 ∧ (∀ j, j < b + 27 ∨ b + 67 ≤ j → L.getD j 0 = L1.getD j 0) ∧ ∀ k, k < i → L.getD (b + 27 + k) 0 = M1.getD k 0) → J t 0 0 147 [some (vr h), some (vr ad), some (vi B), some (vi k)] [] n0 (mu w ad (ca L)) := by
  have l1 := hr.l1
  have l2 := hr.l2
  have l3 := hr.l3
  have l4 := hr.l4
  have l5 := hr.l5
  have l6 := hr.l6
  intro m
  induction m with
  | zero =>
    intro i k L hm hk hi
    obtain ⟨i1, i2, i3⟩ := hi
    refine x_iload_n C dX5_lays_147 rfl ?_
    refine x_bipush C dX5_lays_148 ⟨by decide, by decide⟩ ?_
    refine x_icmp_ge (tgt := 173) C dX5_lays_150 (by decide) (fun c150 => ?_) (fun c150 => absurd c150 (by omega))
    refine x_vret C hQ dX5_lays_173 (Nat.le_refl _) (Nat.le_refl _) ?_
    exact ⟨rfl, rfl, hfin L i1 i2 (fun k9 hk9 => i3 k9 (by omega))⟩
  | succ m ih =>
    intro i k L hm hk hi
    obtain ⟨i1, i2, i3⟩ := hi
    refine x_iload_n C dX5_lays_147 rfl ?_
    refine x_bipush C dX5_lays_148 ⟨by decide, by decide⟩ ?_
    refine x_icmp_ge (tgt := 173) C dX5_lays_150 (by decide) (fun c150 => absurd c150 (by omega)) (fun c150 => ?_)
    refine x_aload_n C dX5_lays_153 rfl ?_
    refine x_iload_n C dX5_lays_154 rfl ?_
    refine x_bipush C dX5_lays_155 ⟨by decide, by decide⟩ ?_
    refine x_iadd C dX5_lays_157 (by first | (unfold iR; omega) | exact ⟨by omega, by omega⟩) ?_
    refine x_iload_n C dX5_lays_158 rfl ?_
    refine x_iadd C dX5_lays_159 (by first | (unfold iR; omega) | exact ⟨by omega, by omega⟩) ?_
    refine x_aload_n C dX5_lays_160 rfl ?_
    refine x_get C dX5_lays_161 kfX5_7 ((mu_ne _ _ (by omega)).trans (hr.o)) rfl ?_
    refine x_iload_n C dX5_lays_164 rfl ?_
    refine x_iald C dX5_lays_165 ((mu_ne _ _ (by omega)).trans (hr.a1)) (by omega) (by first | omega | (simp only [List.length_set]; omega)) ?_
    refine x_iastU C dX5_lays_166 (by omega) (by first | omega | (simp only [List.length_set]; omega)) ?_
    rw [show (B + 27 + k).toNat = b + 27 + i by omega, show k.toNat = i by omega]
    refine s_inc4_3 C dX5_lays_167 rfl (by first | (unfold iR; omega) | exact ⟨by omega, by omega⟩) ?_
    refine x_goto (tgt := 147) C dX5_lays_170 (by decide) ?_
    refine ih (i + 1) (k + 1) _ (by omega) (by omega) ⟨by simp only [List.length_set]; exact i1, fun j hj => ?_, fun k9 hk9 => ?_⟩
    · rw [gd_ne (by omega)]; exact i2 j hj
    · by_cases h9 : k9 = i
      · subst h9
        rw [gd_setS _ (by omega)]
      · rw [gd_ne (by omega)]; exact i3 k9 (by omega)

set_option maxHeartbeats 1000000 in
set_option maxRecDepth 100000 in
theorem c_X5_lays (l : Launch) {w : mW} {h : Nat} {mn fc hc mo wi nd tb pi lr lc um sm wp wr ac sz ra rn : Int} {M1 M2 M3 M4 M5 M6 M7 M8 M9 M10 M11 M12 M13 M14 M15 M16 M17 M18 M19 M20 M21 M22 M23 : List Int} (hr : rM w h mn fc hc mo wi nd tb pi lr lc um sm wp wr ac sz ra rn M1 M2 M3 M4 M5 M6 M7 M8 M9 M10 M11 M12 M13 M14 M15 M16 M17 M18 M19 M20 M21 M22 M23) {ad b : Nat} {B : Int} (hB : B = (b : Int)) (had : h + 14 ≤ ad) {L : List Int} (ha : w ad = some (ca L)) (hlen : b + 67 ≤ L.length) (hbn : b ≤ 1000) : Cv l yX5_lays cX5_lays 4 0 [vr h, vr ad, vi B] w (fun w' => ∃ L', w' = mu w ad (ca L') ∧ L'.length = L.length ∧ noteR L' b mn fc hc mo wi nd tb M1 M2 M3 M4 M5 M6 ∧ ∀ i, i < b ∨ b + 67 ≤ i → L'.getD i 0 = L.getD i 0) := by
  refine Cv.of (ml := [some (vr h), some (vr ad), some (vi B), none]) kyX5_lays rfl (Nat.le_of_ble_eq_true rfl) rfl ?_
  intro t n C hQ
  skip
  refine x_aload_n C dX5_lays_0 rfl ?_
  refine x_iload_n C dX5_lays_1 rfl ?_
  refine x_aload_n C dX5_lays_2 rfl ?_
  refine x_get C dX5_lays_3 kfX5_89 (hr.o) rfl ?_
  refine x_iast C dX5_lays_6 (ha) (by omega) (by first | omega | (simp only [List.length_set]; omega)) ?_
  rw [show B.toNat = b by omega]
  refine x_aload_n C dX5_lays_7 rfl ?_
  refine x_iload_n C dX5_lays_8 rfl ?_
  refine x_iconst C dX5_lays_9 ⟨by decide, by decide⟩ ?_
  refine x_iadd C dX5_lays_10 (by first | (unfold iR; omega) | exact ⟨by omega, by omega⟩) ?_
  refine x_aload_n C dX5_lays_11 rfl ?_
  refine x_get C dX5_lays_12 kfX5_107 ((mu_ne _ _ (by omega)).trans (hr.o)) rfl ?_
  refine x_iastU C dX5_lays_15 (by omega) (by first | omega | (simp only [List.length_set]; omega)) ?_
  rw [show (B + 1).toNat = b + 1 by omega]
  refine x_aload_n C dX5_lays_16 rfl ?_
  refine x_iload_n C dX5_lays_17 rfl ?_
  refine x_iconst C dX5_lays_18 ⟨by decide, by decide⟩ ?_
  refine x_iadd C dX5_lays_19 (by first | (unfold iR; omega) | exact ⟨by omega, by omega⟩) ?_
  refine x_aload_n C dX5_lays_20 rfl ?_
  refine x_get C dX5_lays_21 kfX5_110 ((mu_ne _ _ (by omega)).trans (hr.o)) rfl ?_
  refine x_iastU C dX5_lays_24 (by omega) (by first | omega | (simp only [List.length_set]; omega)) ?_
  rw [show (B + 2).toNat = b + 2 by omega]
  refine x_aload_n C dX5_lays_25 rfl ?_
  refine x_iload_n C dX5_lays_26 rfl ?_
  refine x_iconst C dX5_lays_27 ⟨by decide, by decide⟩ ?_
  refine x_iadd C dX5_lays_28 (by first | (unfold iR; omega) | exact ⟨by omega, by omega⟩) ?_
  refine x_aload_n C dX5_lays_29 rfl ?_
  refine x_get C dX5_lays_30 kfX5_28 ((mu_ne _ _ (by omega)).trans (hr.o)) rfl ?_
  refine x_iastU C dX5_lays_33 (by omega) (by first | omega | (simp only [List.length_set]; omega)) ?_
  rw [show (B + 3).toNat = b + 3 by omega]
  refine x_aload_n C dX5_lays_34 rfl ?_
  refine x_iload_n C dX5_lays_35 rfl ?_
  refine x_iconst C dX5_lays_36 ⟨by decide, by decide⟩ ?_
  refine x_iadd C dX5_lays_37 (by first | (unfold iR; omega) | exact ⟨by omega, by omega⟩) ?_
  refine x_aload_n C dX5_lays_38 rfl ?_
  refine x_get C dX5_lays_39 kfX5_32 ((mu_ne _ _ (by omega)).trans (hr.o)) rfl ?_
  refine x_iastU C dX5_lays_42 (by omega) (by first | omega | (simp only [List.length_set]; omega)) ?_
  rw [show (B + 4).toNat = b + 4 by omega]
  refine x_aload_n C dX5_lays_43 rfl ?_
  refine x_iload_n C dX5_lays_44 rfl ?_
  refine x_iconst C dX5_lays_45 ⟨by decide, by decide⟩ ?_
  refine x_iadd C dX5_lays_46 (by first | (unfold iR; omega) | exact ⟨by omega, by omega⟩) ?_
  refine x_aload_n C dX5_lays_47 rfl ?_
  refine x_get C dX5_lays_48 kfX5_100 ((mu_ne _ _ (by omega)).trans (hr.o)) rfl ?_
  refine x_iastU C dX5_lays_51 (by omega) (by first | omega | (simp only [List.length_set]; omega)) ?_
  rw [show (B + 5).toNat = b + 5 by omega]
  refine x_aload_n C dX5_lays_52 rfl ?_
  refine x_iload_n C dX5_lays_53 rfl ?_
  refine x_bipush C dX5_lays_54 ⟨by decide, by decide⟩ ?_
  refine x_iadd C dX5_lays_56 (by first | (unfold iR; omega) | exact ⟨by omega, by omega⟩) ?_
  refine x_aload_n C dX5_lays_57 rfl ?_
  refine x_get C dX5_lays_58 kfX5_35 ((mu_ne _ _ (by omega)).trans (hr.o)) rfl ?_
  refine x_iastU C dX5_lays_61 (by omega) (by first | omega | (simp only [List.length_set]; omega)) ?_
  rw [show (B + 6).toNat = b + 6 by omega]
  refine x_iconst C dX5_lays_62 ⟨by decide, by decide⟩ ?_
  refine s_ist4_3 C dX5_lays_63 rfl ?_
  refine lp_X5_lays_1 hr hB had (L1 := ((((((L.set b mn).set (b + 1) fc).set (b + 2) hc).set (b + 3) mo).set (b + 4) wi).set (b + 5) nd).set (b + 6) tb) (n9 := L.length) hlen hbn C (fun k L2 g1 g2 g3 => ?_) 4 0 0 _ rfl rfl ⟨by simp only [List.length_set], fun j hj => rfl, fun k hk => absurd hk (by omega)⟩
  refine x_iconst C dX5_lays_145 ⟨by decide, by decide⟩ ?_
  refine s_ist4_3 C dX5_lays_146 rfl ?_
  refine lp_X5_lays_2 hr hB had (L1 := L2) (n9 := L.length) hlen hbn C hQ (fun L3 u1 u2 u3 => ?_) 40 0 0 _ rfl rfl ⟨g1, fun j hj => rfl, fun k hk => absurd hk (by omega)⟩
  refine ⟨L3, rfl, u1, ⟨⟨?_, ?_, ?_, ?_, ?_, ?_, ?_⟩, fun k hk => ?_, u3⟩, fun i hi => ?_⟩
  · rw [u2 _ (by omega), g2 _ (by omega), gd_ne (by omega), gd_ne (by omega), gd_ne (by omega), gd_ne (by omega), gd_ne (by omega), gd_ne (by omega), gd_setS _ (by first | omega | (simp only [List.length_set]; omega))]
  · rw [u2 _ (by omega), g2 _ (by omega), gd_ne (by omega), gd_ne (by omega), gd_ne (by omega), gd_ne (by omega), gd_ne (by omega), gd_setS _ (by first | omega | (simp only [List.length_set]; omega))]
  · rw [u2 _ (by omega), g2 _ (by omega), gd_ne (by omega), gd_ne (by omega), gd_ne (by omega), gd_ne (by omega), gd_setS _ (by first | omega | (simp only [List.length_set]; omega))]
  · rw [u2 _ (by omega), g2 _ (by omega), gd_ne (by omega), gd_ne (by omega), gd_ne (by omega), gd_setS _ (by first | omega | (simp only [List.length_set]; omega))]
  · rw [u2 _ (by omega), g2 _ (by omega), gd_ne (by omega), gd_ne (by omega), gd_setS _ (by first | omega | (simp only [List.length_set]; omega))]
  · rw [u2 _ (by omega), g2 _ (by omega), gd_ne (by omega), gd_setS _ (by first | omega | (simp only [List.length_set]; omega))]
  · rw [u2 _ (by omega), g2 _ (by omega), gd_setS _ (by first | omega | (simp only [List.length_set]; omega))]
  · obtain ⟨a1, a2, a3, a4, a5⟩ := g3 k hk
    exact ⟨(u2 _ (by omega)).trans a1, (u2 _ (by omega)).trans a2, (u2 _ (by omega)).trans a3, (u2 _ (by omega)).trans a4, (u2 _ (by omega)).trans a5⟩
  · rw [u2 _ (by omega), g2 _ (by omega), gd_ne (by omega), gd_ne (by omega), gd_ne (by omega), gd_ne (by omega), gd_ne (by omega), gd_ne (by omega), gd_ne (by omega)]

set_option maxHeartbeats 1000000 in
set_option maxRecDepth 100000 in
theorem lp_X5_takes_1 {t : TX} {l : Launch} {n0 : Nat} {w0 : mW} {h : Nat} {pi lr lc um sm wp wr ac sz ra rn : Int} {M7 M8 M9 M10 M11 M12 M13 M14 M15 M16 M17 M18 M19 M20 M21 M22 M23 : List Int} {ad b : Nat} {B : Int} {L : List Int} (hB : B = (b : Int)) {mn fc hc mo wi nd tb : Int} {M1 : List Int} (hA : ∀ {w : mW} {mn fc hc mo wi nd tb : Int} {M1 M2 M3 M4 M5 M6 : List Int}, rM w h mn fc hc mo wi nd tb pi lr lc um sm wp wr ac sz ra rn M1 M2 M3 M4 M5 M6 M7 M8 M9 M10 M11 M12 M13 M14 M15 M16 M17 M18 M19 M20 M21 M22 M23 → w ad = some (ca L)) (hlen : b + 67 ≤ L.length) (hbn : b ≤ 1000) (C : Cb t l cX5_takes RX5 4 none 0 0 0)  (kx : ∀ (k : Int) (M2 M3 M4 M5 M6 : List Int) (w : mW), rM w h mn fc hc mo wi nd tb pi lr lc um sm wp wr ac sz ra rn M1 M2 M3 M4 M5 M6 M7 M8 M9 M10 M11 M12 M13 M14 M15 M16 M17 M18 M19 M20 M21 M22 M23 → frR w0 w h (h + 23) → (∀ k, k < 4 → M2.getD k 0 = L.getD (b + 7 + k) 0 ∧ M3.getD k 0 = L.getD (b + 11 + k) 0 ∧ M4.getD k 0 = L.getD (b + 15 + k) 0 ∧ M5.getD k 0 = L.getD (b + 19 + k) 0 ∧ M6.getD k 0 = L.getD (b + 23 + k) 0) → J t 0 0 145 [some (vr h), some (vr ad), some (vi B), some (vi k)] [] n0 w) : ∀ (m i : Nat) (k : Int) (M2 M3 M4 M5 M6 : List Int) (w : mW), i + m = 4 → k = i → rM w h mn fc hc mo wi nd tb pi lr lc um sm wp wr ac sz ra rn M1 M2 M3 M4 M5 M6 M7 M8 M9 M10 M11 M12 M13 M14 M15 M16 M17 M18 M19 M20 M21 M22 M23 → frR w0 w h (h + 23) → (∀ k, k < i → M2.getD k 0 = L.getD (b + 7 + k) 0 ∧ M3.getD k 0 = L.getD (b + 11 + k) 0 ∧ M4.getD k 0 = L.getD (b + 15 + k) 0 ∧ M5.getD k 0 = L.getD (b + 19 + k) 0 ∧ M6.getD k 0 = L.getD (b + 23 + k) 0) → J t 0 0 64 [some (vr h), some (vr ad), some (vi B), some (vi k)] [] n0 w := by
  intro m
  induction m with
  | zero =>
    intro i k M2 M3 M4 M5 M6 w hm hk hr hf hi
    refine x_iload_n C dX5_takes_64 rfl ?_
    refine x_iconst C dX5_takes_65 ⟨by decide, by decide⟩ ?_
    refine x_icmp_ge (tgt := 145) C dX5_takes_66 (by decide) (fun c66 => ?_) (fun c66 => absurd c66 (by omega))
    exact kx k M2 M3 M4 M5 M6 w hr hf (fun k9 hk9 => hi k9 (by omega))
  | succ m ih =>
    intro i k M2 M3 M4 M5 M6 w hm hk hr hf hi
    have l2 := hr.l2
    have l3 := hr.l3
    have l4 := hr.l4
    have l5 := hr.l5
    have l6 := hr.l6
    refine x_iload_n C dX5_takes_64 rfl ?_
    refine x_iconst C dX5_takes_65 ⟨by decide, by decide⟩ ?_
    refine x_icmp_ge (tgt := 145) C dX5_takes_66 (by decide) (fun c66 => absurd c66 (by omega)) (fun c66 => ?_)
    refine x_aload_n C dX5_takes_69 rfl ?_
    refine x_get C dX5_takes_70 kfX5_13 hr.o rfl ?_
    refine x_iload_n C dX5_takes_73 rfl ?_
    refine x_aload_n C dX5_takes_74 rfl ?_
    refine x_iload_n C dX5_takes_75 rfl ?_
    refine x_bipush C dX5_takes_76 ⟨by decide, by decide⟩ ?_
    refine x_iadd C dX5_takes_78 (by first | (unfold iR; omega) | exact ⟨by omega, by omega⟩) ?_
    refine x_iload_n C dX5_takes_79 rfl ?_
    refine x_iadd C dX5_takes_80 (by first | (unfold iR; omega) | exact ⟨by omega, by omega⟩) ?_
    refine x_iald C dX5_takes_81 ((hA hr)) (by omega) (by first | omega | (simp only [List.length_set, List.length_append, List.length_cons, List.length_map, List.length_replicate]; omega)) ?_
    refine x_iast C dX5_takes_82 hr.a2 (by omega) (by rw [hr.l2]; omega) ?_
    refine ab_M_M2 hr hf (by rw [List.length_set]; exact hr.l2) (fun w hr hf => ?_)
    refine x_aload_n C dX5_takes_83 rfl ?_
    refine x_get C dX5_takes_84 kfX5_16 hr.o rfl ?_
    refine x_iload_n C dX5_takes_87 rfl ?_
    refine x_aload_n C dX5_takes_88 rfl ?_
    refine x_iload_n C dX5_takes_89 rfl ?_
    refine x_bipush C dX5_takes_90 ⟨by decide, by decide⟩ ?_
    refine x_iadd C dX5_takes_92 (by first | (unfold iR; omega) | exact ⟨by omega, by omega⟩) ?_
    refine x_iload_n C dX5_takes_93 rfl ?_
    refine x_iadd C dX5_takes_94 (by first | (unfold iR; omega) | exact ⟨by omega, by omega⟩) ?_
    refine x_iald C dX5_takes_95 ((hA hr)) (by omega) (by first | omega | (simp only [List.length_set, List.length_append, List.length_cons, List.length_map, List.length_replicate]; omega)) ?_
    refine x_iast C dX5_takes_96 hr.a3 (by omega) (by rw [hr.l3]; omega) ?_
    refine ab_M_M3 hr hf (by rw [List.length_set]; exact hr.l3) (fun w hr hf => ?_)
    refine x_aload_n C dX5_takes_97 rfl ?_
    refine x_get C dX5_takes_98 kfX5_19 hr.o rfl ?_
    refine x_iload_n C dX5_takes_101 rfl ?_
    refine x_aload_n C dX5_takes_102 rfl ?_
    refine x_iload_n C dX5_takes_103 rfl ?_
    refine x_bipush C dX5_takes_104 ⟨by decide, by decide⟩ ?_
    refine x_iadd C dX5_takes_106 (by first | (unfold iR; omega) | exact ⟨by omega, by omega⟩) ?_
    refine x_iload_n C dX5_takes_107 rfl ?_
    refine x_iadd C dX5_takes_108 (by first | (unfold iR; omega) | exact ⟨by omega, by omega⟩) ?_
    refine x_iald C dX5_takes_109 ((hA hr)) (by omega) (by first | omega | (simp only [List.length_set, List.length_append, List.length_cons, List.length_map, List.length_replicate]; omega)) ?_
    refine x_iast C dX5_takes_110 hr.a4 (by omega) (by rw [hr.l4]; omega) ?_
    refine ab_M_M4 hr hf (by rw [List.length_set]; exact hr.l4) (fun w hr hf => ?_)
    refine x_aload_n C dX5_takes_111 rfl ?_
    refine x_get C dX5_takes_112 kfX5_22 hr.o rfl ?_
    refine x_iload_n C dX5_takes_115 rfl ?_
    refine x_aload_n C dX5_takes_116 rfl ?_
    refine x_iload_n C dX5_takes_117 rfl ?_
    refine x_bipush C dX5_takes_118 ⟨by decide, by decide⟩ ?_
    refine x_iadd C dX5_takes_120 (by first | (unfold iR; omega) | exact ⟨by omega, by omega⟩) ?_
    refine x_iload_n C dX5_takes_121 rfl ?_
    refine x_iadd C dX5_takes_122 (by first | (unfold iR; omega) | exact ⟨by omega, by omega⟩) ?_
    refine x_iald C dX5_takes_123 ((hA hr)) (by omega) (by first | omega | (simp only [List.length_set, List.length_append, List.length_cons, List.length_map, List.length_replicate]; omega)) ?_
    refine x_iast C dX5_takes_124 hr.a5 (by omega) (by rw [hr.l5]; omega) ?_
    refine ab_M_M5 hr hf (by rw [List.length_set]; exact hr.l5) (fun w hr hf => ?_)
    refine x_aload_n C dX5_takes_125 rfl ?_
    refine x_get C dX5_takes_126 kfX5_25 hr.o rfl ?_
    refine x_iload_n C dX5_takes_129 rfl ?_
    refine x_aload_n C dX5_takes_130 rfl ?_
    refine x_iload_n C dX5_takes_131 rfl ?_
    refine x_bipush C dX5_takes_132 ⟨by decide, by decide⟩ ?_
    refine x_iadd C dX5_takes_134 (by first | (unfold iR; omega) | exact ⟨by omega, by omega⟩) ?_
    refine x_iload_n C dX5_takes_135 rfl ?_
    refine x_iadd C dX5_takes_136 (by first | (unfold iR; omega) | exact ⟨by omega, by omega⟩) ?_
    refine x_iald C dX5_takes_137 ((hA hr)) (by omega) (by first | omega | (simp only [List.length_set, List.length_append, List.length_cons, List.length_map, List.length_replicate]; omega)) ?_
    refine x_iast C dX5_takes_138 hr.a6 (by omega) (by rw [hr.l6]; omega) ?_
    refine ab_M_M6 hr hf (by rw [List.length_set]; exact hr.l6) (fun w hr hf => ?_)
    refine s_inc4_3 C dX5_takes_139 rfl (by first | (unfold iR; omega) | exact ⟨by omega, by omega⟩) ?_
    refine x_goto (tgt := 64) C dX5_takes_142 (by decide) ?_
    rw [show (B + 7 + k).toNat = b + 7 + i by omega, show (B + 11 + k).toNat = b + 11 + i by omega, show (B + 15 + k).toNat = b + 15 + i by omega, show (B + 19 + k).toNat = b + 19 + i by omega, show (B + 23 + k).toNat = b + 23 + i by omega, show k.toNat = i by omega] at hr
    refine ih (i + 1) (k + 1) _ _ _ _ _ w (by omega) (by omega) hr hf (fun k9 hk9 => ?_)
    by_cases h9 : k9 = i
    · subst h9
      exact ⟨gd_setS _ (by omega), gd_setS _ (by omega), gd_setS _ (by omega), gd_setS _ (by omega), gd_setS _ (by omega)⟩
    · obtain ⟨a1, a2, a3, a4, a5⟩ := hi k9 (by omega)
      exact ⟨(gd_ne (by omega)).trans a1, (gd_ne (by omega)).trans a2, (gd_ne (by omega)).trans a3, (gd_ne (by omega)).trans a4, (gd_ne (by omega)).trans a5⟩

set_option maxHeartbeats 1000000 in
set_option maxRecDepth 100000 in
theorem lp_X5_takes_2 {t : TX} {l : Launch} {n0 : Nat} {w0 : mW} {h : Nat} {pi lr lc um sm wp wr ac sz ra rn : Int} {M7 M8 M9 M10 M11 M12 M13 M14 M15 M16 M17 M18 M19 M20 M21 M22 M23 : List Int} {ad b : Nat} {B : Int} {L : List Int} (hB : B = (b : Int)) {mn fc hc mo wi nd tb : Int} {M2 M3 M4 M5 M6 : List Int} (hA : ∀ {w : mW} {mn fc hc mo wi nd tb : Int} {M1 M2 M3 M4 M5 M6 : List Int}, rM w h mn fc hc mo wi nd tb pi lr lc um sm wp wr ac sz ra rn M1 M2 M3 M4 M5 M6 M7 M8 M9 M10 M11 M12 M13 M14 M15 M16 M17 M18 M19 M20 M21 M22 M23 → w ad = some (ca L)) (hlen : b + 67 ≤ L.length) (hbn : b ≤ 1000) (C : Cb t l cX5_takes RX5 4 none 0 0 0) {Q : mW → Prop} (hQ : RQ t 0 0 (fun r n' w' => n' = n0 ∧ r = none ∧ Q w')) (hfin : ∀ (M1 : List Int) (w : mW), rM w h mn fc hc mo wi nd tb pi lr lc um sm wp wr ac sz ra rn M1 M2 M3 M4 M5 M6 M7 M8 M9 M10 M11 M12 M13 M14 M15 M16 M17 M18 M19 M20 M21 M22 M23 → frR w0 w h (h + 23) → (∀ k, k < 40 → M1.getD k 0 = L.getD (b + 27 + k) 0) → Q w) : ∀ (m i : Nat) (k : Int) (M1 : List Int) (w : mW), i + m = 40 → k = i → rM w h mn fc hc mo wi nd tb pi lr lc um sm wp wr ac sz ra rn M1 M2 M3 M4 M5 M6 M7 M8 M9 M10 M11 M12 M13 M14 M15 M16 M17 M18 M19 M20 M21 M22 M23 → frR w0 w h (h + 23) → (∀ k, k < i → M1.getD k 0 = L.getD (b + 27 + k) 0) → J t 0 0 147 [some (vr h), some (vr ad), some (vi B), some (vi k)] [] n0 w := by
  intro m
  induction m with
  | zero =>
    intro i k M1 w hm hk hr hf hi
    refine x_iload_n C dX5_takes_147 rfl ?_
    refine x_bipush C dX5_takes_148 ⟨by decide, by decide⟩ ?_
    refine x_icmp_ge (tgt := 173) C dX5_takes_150 (by decide) (fun c150 => ?_) (fun c150 => absurd c150 (by omega))
    refine x_vret C hQ dX5_takes_173 (Nat.le_refl _) (Nat.le_refl _) ?_
    exact ⟨rfl, rfl, hfin M1 w hr hf (fun k9 hk9 => hi k9 (by omega))⟩
  | succ m ih =>
    intro i k M1 w hm hk hr hf hi
    have l1 := hr.l1
    refine x_iload_n C dX5_takes_147 rfl ?_
    refine x_bipush C dX5_takes_148 ⟨by decide, by decide⟩ ?_
    refine x_icmp_ge (tgt := 173) C dX5_takes_150 (by decide) (fun c150 => absurd c150 (by omega)) (fun c150 => ?_)
    refine x_aload_n C dX5_takes_153 rfl ?_
    refine x_get C dX5_takes_154 kfX5_7 hr.o rfl ?_
    refine x_iload_n C dX5_takes_157 rfl ?_
    refine x_aload_n C dX5_takes_158 rfl ?_
    refine x_iload_n C dX5_takes_159 rfl ?_
    refine x_bipush C dX5_takes_160 ⟨by decide, by decide⟩ ?_
    refine x_iadd C dX5_takes_162 (by first | (unfold iR; omega) | exact ⟨by omega, by omega⟩) ?_
    refine x_iload_n C dX5_takes_163 rfl ?_
    refine x_iadd C dX5_takes_164 (by first | (unfold iR; omega) | exact ⟨by omega, by omega⟩) ?_
    refine x_iald C dX5_takes_165 ((hA hr)) (by omega) (by first | omega | (simp only [List.length_set, List.length_append, List.length_cons, List.length_map, List.length_replicate]; omega)) ?_
    refine x_iast C dX5_takes_166 hr.a1 (by omega) (by rw [hr.l1]; omega) ?_
    refine ab_M_M1 hr hf (by rw [List.length_set]; exact hr.l1) (fun w hr hf => ?_)
    refine s_inc4_3 C dX5_takes_167 rfl (by first | (unfold iR; omega) | exact ⟨by omega, by omega⟩) ?_
    refine x_goto (tgt := 147) C dX5_takes_170 (by decide) ?_
    rw [show (B + 27 + k).toNat = b + 27 + i by omega, show k.toNat = i by omega] at hr
    refine ih (i + 1) (k + 1) _ w (by omega) (by omega) hr hf (fun k9 hk9 => ?_)
    by_cases h9 : k9 = i
    · subst h9
      exact gd_setS _ (by omega)
    · exact (gd_ne (by omega)).trans (hi k9 (by omega))

set_option maxHeartbeats 1000000 in
set_option maxRecDepth 100000 in
theorem c_X5_takes (l : Launch) {w : mW} {h : Nat} {mn fc hc mo wi nd tb pi lr lc um sm wp wr ac sz ra rn : Int} {M1 M2 M3 M4 M5 M6 M7 M8 M9 M10 M11 M12 M13 M14 M15 M16 M17 M18 M19 M20 M21 M22 M23 : List Int} (hr : rM w h mn fc hc mo wi nd tb pi lr lc um sm wp wr ac sz ra rn M1 M2 M3 M4 M5 M6 M7 M8 M9 M10 M11 M12 M13 M14 M15 M16 M17 M18 M19 M20 M21 M22 M23) {ad b : Nat} {B : Int} {L : List Int} (hB : B = (b : Int)) (hA : ∀ {w : mW} {mn fc hc mo wi nd tb : Int} {M1 M2 M3 M4 M5 M6 : List Int}, rM w h mn fc hc mo wi nd tb pi lr lc um sm wp wr ac sz ra rn M1 M2 M3 M4 M5 M6 M7 M8 M9 M10 M11 M12 M13 M14 M15 M16 M17 M18 M19 M20 M21 M22 M23 → w ad = some (ca L)) (hlen : b + 67 ≤ L.length) (hbn : b ≤ 1000) : Cv l yX5_takes cX5_takes 4 0 [vr h, vr ad, vi B] w (fun w' => ∃ M1 M2 M3 M4 M5 M6, rM w' h (L.getD b 0) (L.getD (b + 1) 0) (L.getD (b + 2) 0) (L.getD (b + 3) 0) (L.getD (b + 4) 0) (L.getD (b + 5) 0) (L.getD (b + 6) 0) pi lr lc um sm wp wr ac sz ra rn M1 M2 M3 M4 M5 M6 M7 M8 M9 M10 M11 M12 M13 M14 M15 M16 M17 M18 M19 M20 M21 M22 M23 ∧ frR w w' h (h + 23) ∧ (∀ k, k < 4 → M2.getD k 0 = L.getD (b + 7 + k) 0 ∧ M3.getD k 0 = L.getD (b + 11 + k) 0 ∧ M4.getD k 0 = L.getD (b + 15 + k) 0 ∧ M5.getD k 0 = L.getD (b + 19 + k) 0 ∧ M6.getD k 0 = L.getD (b + 23 + k) 0) ∧ (∀ k, k < 40 → M1.getD k 0 = L.getD (b + 27 + k) 0)) := by
  refine Cv.of (ml := [some (vr h), some (vr ad), some (vi B), none]) kyX5_takes rfl (Nat.le_of_ble_eq_true rfl) rfl ?_
  intro t n C hQ
  have hf : frR w w h (h + 23) := frR.rf
  refine x_aload_n C dX5_takes_0 rfl ?_
  refine x_aload_n C dX5_takes_1 rfl ?_
  refine x_iload_n C dX5_takes_2 rfl ?_
  refine x_iald C dX5_takes_3 ((hA hr)) (by omega) (by first | omega | (simp only [List.length_set, List.length_append, List.length_cons, List.length_map, List.length_replicate]; omega)) ?_
  rw [show B.toNat = b by omega]
  refine x_put C dX5_takes_4 kfX5_89 kw_5_0 rfl rfl hr.o (Nat.le_of_ble_eq_true rfl) ?_
  refine ab_M_mn hr hf (fun w hr hf => ?_)
  refine x_aload_n C dX5_takes_7 rfl ?_
  refine x_aload_n C dX5_takes_8 rfl ?_
  refine x_iload_n C dX5_takes_9 rfl ?_
  refine x_iconst C dX5_takes_10 ⟨by decide, by decide⟩ ?_
  refine x_iadd C dX5_takes_11 (by first | (unfold iR; omega) | exact ⟨by omega, by omega⟩) ?_
  refine x_iald C dX5_takes_12 ((hA hr)) (by omega) (by first | omega | (simp only [List.length_set, List.length_append, List.length_cons, List.length_map, List.length_replicate]; omega)) ?_
  rw [show (B + 1).toNat = b + 1 by omega]
  refine x_put C dX5_takes_13 kfX5_107 kw_5_2 rfl rfl hr.o (Nat.le_of_ble_eq_true rfl) ?_
  refine ab_M_fc hr hf (fun w hr hf => ?_)
  refine x_aload_n C dX5_takes_16 rfl ?_
  refine x_aload_n C dX5_takes_17 rfl ?_
  refine x_iload_n C dX5_takes_18 rfl ?_
  refine x_iconst C dX5_takes_19 ⟨by decide, by decide⟩ ?_
  refine x_iadd C dX5_takes_20 (by first | (unfold iR; omega) | exact ⟨by omega, by omega⟩) ?_
  refine x_iald C dX5_takes_21 ((hA hr)) (by omega) (by first | omega | (simp only [List.length_set, List.length_append, List.length_cons, List.length_map, List.length_replicate]; omega)) ?_
  rw [show (B + 2).toNat = b + 2 by omega]
  refine x_put C dX5_takes_22 kfX5_110 kw_5_6 rfl rfl hr.o (Nat.le_of_ble_eq_true rfl) ?_
  refine ab_M_hc hr hf (fun w hr hf => ?_)
  refine x_aload_n C dX5_takes_25 rfl ?_
  refine x_aload_n C dX5_takes_26 rfl ?_
  refine x_iload_n C dX5_takes_27 rfl ?_
  refine x_iconst C dX5_takes_28 ⟨by decide, by decide⟩ ?_
  refine x_iadd C dX5_takes_29 (by first | (unfold iR; omega) | exact ⟨by omega, by omega⟩) ?_
  refine x_iald C dX5_takes_30 ((hA hr)) (by omega) (by first | omega | (simp only [List.length_set, List.length_append, List.length_cons, List.length_map, List.length_replicate]; omega)) ?_
  rw [show (B + 3).toNat = b + 3 by omega]
  refine x_put C dX5_takes_31 kfX5_28 kw_5_9 rfl rfl hr.o (Nat.le_of_ble_eq_true rfl) ?_
  refine ab_M_mo hr hf (fun w hr hf => ?_)
  refine x_aload_n C dX5_takes_34 rfl ?_
  refine x_aload_n C dX5_takes_35 rfl ?_
  refine x_iload_n C dX5_takes_36 rfl ?_
  refine x_iconst C dX5_takes_37 ⟨by decide, by decide⟩ ?_
  refine x_iadd C dX5_takes_38 (by first | (unfold iR; omega) | exact ⟨by omega, by omega⟩) ?_
  refine x_iald C dX5_takes_39 ((hA hr)) (by omega) (by first | omega | (simp only [List.length_set, List.length_append, List.length_cons, List.length_map, List.length_replicate]; omega)) ?_
  rw [show (B + 4).toNat = b + 4 by omega]
  refine x_put C dX5_takes_40 kfX5_32 kw_5_10 rfl rfl hr.o (Nat.le_of_ble_eq_true rfl) ?_
  refine ab_M_wi hr hf (fun w hr hf => ?_)
  refine x_aload_n C dX5_takes_43 rfl ?_
  refine x_aload_n C dX5_takes_44 rfl ?_
  refine x_iload_n C dX5_takes_45 rfl ?_
  refine x_iconst C dX5_takes_46 ⟨by decide, by decide⟩ ?_
  refine x_iadd C dX5_takes_47 (by first | (unfold iR; omega) | exact ⟨by omega, by omega⟩) ?_
  refine x_iald C dX5_takes_48 ((hA hr)) (by omega) (by first | omega | (simp only [List.length_set, List.length_append, List.length_cons, List.length_map, List.length_replicate]; omega)) ?_
  rw [show (B + 5).toNat = b + 5 by omega]
  refine x_put C dX5_takes_49 kfX5_100 kw_5_11 rfl rfl hr.o (Nat.le_of_ble_eq_true rfl) ?_
  refine ab_M_nd hr hf (fun w hr hf => ?_)
  refine x_aload_n C dX5_takes_52 rfl ?_
  refine x_aload_n C dX5_takes_53 rfl ?_
  refine x_iload_n C dX5_takes_54 rfl ?_
  refine x_bipush C dX5_takes_55 ⟨by decide, by decide⟩ ?_
  refine x_iadd C dX5_takes_57 (by first | (unfold iR; omega) | exact ⟨by omega, by omega⟩) ?_
  refine x_iald C dX5_takes_58 ((hA hr)) (by omega) (by first | omega | (simp only [List.length_set, List.length_append, List.length_cons, List.length_map, List.length_replicate]; omega)) ?_
  rw [show (B + 6).toNat = b + 6 by omega]
  refine x_put C dX5_takes_59 kfX5_35 kw_5_12 rfl rfl hr.o (Nat.le_of_ble_eq_true rfl) ?_
  refine ab_M_tb hr hf (fun w hr hf => ?_)
  refine x_iconst C dX5_takes_62 ⟨by decide, by decide⟩ ?_
  refine s_ist4_3 C dX5_takes_63 rfl ?_
  refine lp_X5_takes_1 hB hA hlen hbn C (fun k M2 M3 M4 M5 M6 w hr hf g5 => ?_) 4 0 0 _ _ _ _ _ _ rfl rfl hr hf (fun k hk => absurd hk (by omega))
  refine x_iconst C dX5_takes_145 ⟨by decide, by decide⟩ ?_
  refine s_ist4_3 C dX5_takes_146 rfl ?_
  exact lp_X5_takes_2 hB hA hlen hbn C hQ (fun M1 w hr hf g1 => ⟨M1, M2, M3, M4, M5, M6, hr, hf, g5, g1⟩) 40 0 0 _ _ rfl rfl hr hf (fun k hk => absurd hk (by omega))

theorem takesF {w : mW} {h : Nat} {pi lr lc um sm wp wr ac sz ra rn : Int} {M7 M8 M9 M10 M11 M12 M13 M14 M15 M16 M17 M18 M19 M20 M21 M22 M23 : List Int} {M1 M2 M3 M4 M5 M6 : List Int} {w1 : mW} {L : List Int} {b : Nat} {F : mF} (hn : F.1.1.length ≤ 40 ∧ F.1.2.1.length ≤ 4 ∧ F.1.2.2.length ≤ 4) (hF : noteF L b F) (hr : rM w1 h (L.getD b 0) (L.getD (b + 1) 0) (L.getD (b + 2) 0) (L.getD (b + 3) 0) (L.getD (b + 4) 0) (L.getD (b + 5) 0) (L.getD (b + 6) 0) pi lr lc um sm wp wr ac sz ra rn M1 M2 M3 M4 M5 M6 M7 M8 M9 M10 M11 M12 M13 M14 M15 M16 M17 M18 M19 M20 M21 M22 M23) (h5 : (∀ k, k < 4 → M2.getD k 0 = L.getD (b + 7 + k) 0 ∧ M3.getD k 0 = L.getD (b + 11 + k) 0 ∧ M4.getD k 0 = L.getD (b + 15 + k) 0 ∧ M5.getD k 0 = L.getD (b + 19 + k) 0 ∧ M6.getD k 0 = L.getD (b + 23 + k) 0)) (h1 : (∀ k, k < 40 → M1.getD k 0 = L.getD (b + 27 + k) 0)) : isN w1 h F um sm wp wr ac sz ra rn M14 M15 M16 M17 M18 M19 M20 M21 M22 M23 := by
  obtain ⟨⟨a1, a2, a3, a4, a5, a6, a7⟩, g2, g3, g4⟩ := hF
  have l1 := hr.l1
  have l2 := hr.l2
  have l3 := hr.l3
  have l4 := hr.l4
  have l5 := hr.l5
  have l6 := hr.l6
  obtain ⟨j1, rfl⟩ := pre_of (A := M1) (X := F.1.1) (by omega) (fun k hk => (h1 k (by omega)).trans (g4 k hk))
  obtain ⟨j2, rfl⟩ := pre_of (A := M2) (X := F.1.2.1.map (fun f => f.1)) (by simp; omega) (fun k hk => (h5 k (by simp at hk; omega)).1.trans (g2 k (by simpa using hk)).1)
  obtain ⟨j3, rfl⟩ := pre_of (A := M3) (X := F.1.2.1.map (fun f => f.2.1)) (by simp; omega) (fun k hk => (h5 k (by simp at hk; omega)).2.1.trans (g2 k (by simpa using hk)).2.1)
  obtain ⟨j4, rfl⟩ := pre_of (A := M4) (X := F.1.2.1.map (fun f => f.2.2)) (by simp; omega) (fun k hk => (h5 k (by simp at hk; omega)).2.2.1.trans (g2 k (by simpa using hk)).2.2)
  obtain ⟨j5, rfl⟩ := pre_of (A := M5) (X := F.1.2.2.map (fun f => f.1)) (by simp; omega) (fun k hk => (h5 k (by simp at hk; omega)).2.2.2.1.trans (g3 k (by simpa using hk)).1)
  obtain ⟨j6, rfl⟩ := pre_of (A := M6) (X := F.1.2.2.map (fun f => f.2)) (by simp; omega) (fun k hk => (h5 k (by simp at hk; omega)).2.2.2.2.trans (g3 k (by simpa using hk)).2)
  rw [a1, a2, a3, a4, a5, a6, a7] at hr
  exact ⟨j1, j2, j3, j4, j5, j6, pi, lr, lc, M7, M8, M9, M10, M11, M12, M13, hr⟩
