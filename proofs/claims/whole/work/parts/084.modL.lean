/-! ===== the reference: it reads a text ===== -/
def nmO (tx R : List Int) (a b e z ra rn : Int) : Prop := (numR a b e R = none ∧ z = 0) ∨ ∃ R' : List Int, numR a b e R = some (rn, R') ∧ z = 1 ∧ atT tx ra R'
theorem nmO.no {tx R : List Int} {a b e z ra rn : Int} (h : nmO tx R a b e z ra rn) (hz : z = 0) : numR a b e R = none := by
  rcases h with h | ⟨_, _, h1, _⟩
  · exact h.1
  · omega
theorem nmO.yes {tx R : List Int} {a b e z ra rn : Int} (h : nmO tx R a b e z ra rn) (hz : z ≠ 0) : ∃ R' : List Int, numR a b e R = some (rn, R') ∧ atT tx ra R' := by
  rcases h with h | ⟨R', h0, _, h2⟩
  · exact absurd h.2 hz
  · exact ⟨R', h0, h2⟩
theorem rdO.no {tx : List Int} {o : Option (mF × List Int)} {z ra : Int} {G : mF} (h : rdO tx o z ra G) (hz : z = 0) : o = none := by
  rcases h with h | ⟨_, _, h1, _⟩
  · exact h.1
  · omega
theorem rdO.yes {tx : List Int} {o : Option (mF × List Int)} {z ra : Int} {G : mF} (h : rdO tx o z ra G) (hz : z ≠ 0) : ∃ R' : List Int, o = some (G, R') ∧ atT tx ra R' := by
  rcases h with h | ⟨R', h0, _, h2⟩
  · exact absurd h.2 hz
  · exact ⟨R', h0, h2⟩
theorem rdO.z {tx : List Int} {o : Option (mF × List Int)} {z ra : Int} {G : mF} (h : rdO tx o z ra G) : z = 0 ∨ z = 1 := by
  rcases h with h | ⟨R', h0, h1, h2⟩
  · exact Or.inl h.2
  · exact Or.inr h1
theorem any01 {b : Bool} {z : Int} (h : z = if b = true then 0 else 1) : (z = 0 → b = true) ∧ (z ≠ 0 → ¬ b = true) := by
  cases b with
  | false => rw [if_neg (by decide)] at h; exact ⟨fun h9 => by omega, fun _ => by decide⟩
  | true => rw [if_pos rfl] at h; exact ⟨fun _ => rfl, fun h9 => absurd h h9⟩

set_option maxHeartbeats 1000000 in
set_option maxRecDepth 100000 in
theorem c_X5_here (l : Launch) {w : mW} {h : Nat} {mn fc hc mo wi nd tb pi lr lc um sm wp wr ac ra rn : Int} {M1 M2 M3 M4 M5 M6 M7 M8 M9 M10 M11 M12 M13 M14 M15 M16 M17 M18 M19 M20 M21 M23 : List Int} {tx jt R : List Int} (hr : rM w h mn fc hc mo wi nd tb pi lr lc um sm wp wr ac tx.length ra rn M1 M2 M3 M4 M5 M6 M7 M8 M9 M10 M11 M12 M13 M14 M15 M16 M17 M18 M19 M20 M21 (tx ++ jt) M23) (hT : atT tx ra R) : Cp l yX5_here cX5_here 1 (some .int) 0 [vr h] w (fun z => z = hd0 R) := by
  refine Cp.of (ml := [some (vr h)]) kyX5_here rfl (Nat.le_of_ble_eq_true rfl) rfl ?_
  intro t n C hQ
  have l22 := hr.l22
  simp only [List.length_append] at l22
  have hh := hT.h jt
  refine x_aload_n C dX5_here_0 rfl ?_
  refine x_get C dX5_here_1 kfX5_264 hr.o rfl ?_
  refine x_aload_n C dX5_here_4 rfl ?_
  refine x_get C dX5_here_5 kfX5_261 hr.o rfl ?_
  refine x_icmp_ge (tgt := 23) C dX5_here_8 (by decide) (fun c8 => ?_) (fun c8 => ?_)
  · refine x_iconst C dX5_here_23 ⟨by decide, by decide⟩ ?_
    refine x_iret C hQ dX5_here_24 (Nat.le_refl _) (Nat.le_refl _) ?_
    exact ⟨rfl, rfl, _, rfl, (hh.2.1 (by omega)).symm⟩
  · refine x_aload_n C dX5_here_11 rfl ?_
    refine x_get C dX5_here_12 kfX5_83 hr.o rfl ?_
    refine x_aload_n C dX5_here_15 rfl ?_
    refine x_get C dX5_here_16 kfX5_264 hr.o rfl ?_
    refine x_iald C dX5_here_19 hr.a22 (by omega) (by rw [hr.l22]; omega) ?_
    refine x_goto (tgt := 24) C dX5_here_20 (by decide) ?_
    refine x_iret C hQ dX5_here_24 (Nat.le_refl _) (Nat.le_refl _) ?_
    exact ⟨rfl, rfl, _, rfl, hh.1 (by omega)⟩

set_option maxHeartbeats 1000000 in
set_option maxRecDepth 100000 in
theorem c_X5_isFigure (l : Launch) {w : mW} {h : Nat} {mn fc hc mo wi nd tb pi lr lc um sm wp wr ac ra rn : Int} {M1 M2 M3 M4 M5 M6 M7 M8 M9 M10 M11 M12 M13 M14 M15 M16 M17 M18 M19 M20 M21 M23 : List Int} {tx jt R : List Int} (hr : rM w h mn fc hc mo wi nd tb pi lr lc um sm wp wr ac tx.length ra rn M1 M2 M3 M4 M5 M6 M7 M8 M9 M10 M11 M12 M13 M14 M15 M16 M17 M18 M19 M20 M21 (tx ++ jt) M23) (hT : atT tx ra R) : Cp l yX5_isFigure cX5_isFigure 1 (some .boolean) 1 [vr h] w (fun z => (z = 0 ∨ z = 1) ∧ (z = 1 ↔ 48 ≤ hd0 R ∧ hd0 R ≤ 57)) := by
  refine Cp.of (ml := [some (vr h)]) kyX5_isFigure rfl (Nat.le_of_ble_eq_true rfl) rfl ?_
  intro t n C hQ
  refine x_aload_n C dX5_isFigure_0 rfl ?_
  refine y_p0 C dX5_isFigure_1 kyX5_here knX5_here kmX5_267 hr.o (c_X5_here l hr hT) (by decide) (Nat.zero_le _) (Nat.zero_le _) (Nat.le_of_ble_eq_true rfl) (fun z1 q1 => ?_)
  subst q1
  refine x_bipush C dX5_isFigure_4 ⟨by decide, by decide⟩ ?_
  refine x_bipush C dX5_isFigure_6 ⟨by decide, by decide⟩ ?_
  refine z_p3 C dX5_isFigure_8 kyX5_in ksX5_in kmX5_103 (c_X5_in l (hd0 R) 48 57) (by decide) (Nat.zero_le _) (Nat.zero_le _) (Nat.le_of_ble_eq_true rfl) (fun z8 q8 => ?_)
  refine x_zret C hQ dX5_isFigure_11 (by first | exact Or.inl rfl | exact Or.inr rfl | omega) (Nat.le_refl _) (Nat.le_refl _) ?_
  exact ⟨rfl, rfl, _, rfl, q8⟩

set_option maxHeartbeats 1000000 in
set_option maxRecDepth 100000 in
theorem c_X5_number (l : Launch) {w : mW} {h : Nat} {mn fc hc mo wi nd tb pi lr lc um sm wp wr ac ra rn : Int} {M1 M2 M3 M4 M5 M6 M7 M8 M9 M10 M11 M12 M13 M14 M15 M16 M17 M18 M19 M20 M21 M23 : List Int} {tx jt R : List Int} (hr : rM w h mn fc hc mo wi nd tb pi lr lc um sm wp wr ac tx.length ra rn M1 M2 M3 M4 M5 M6 M7 M8 M9 M10 M11 M12 M13 M14 M15 M16 M17 M18 M19 M20 M21 (tx ++ jt) M23) (hT : atT tx ra R) (a b e : Int) (he : e ≠ 0) : Ci l yX5_number cX5_number 5 (some .boolean) 2 [vr h, vi a, vi b, vi e] w (fun z w' => ∃ (ra rn : Int), rM w' h mn fc hc mo wi nd tb pi lr lc um sm wp wr ac tx.length ra rn M1 M2 M3 M4 M5 M6 M7 M8 M9 M10 M11 M12 M13 M14 M15 M16 M17 M18 M19 M20 M21 (tx ++ jt) M23 ∧ frR w w' h (h + 23) ∧ nmO tx R a b e z ra rn) := by
  refine Ci.of (ml := [some (vr h), some (vi a), some (vi b), some (vi e), none]) kyX5_number rfl (Nat.le_of_ble_eq_true rfl) rfl ?_
  intro t n C hQ
  have hf : frR w w h (h + 23) := frR.rf
  have l22 := hr.l22
  simp only [List.length_append] at l22
  have hh := hT.h jt
  refine x_aload_n C dX5_number_0 rfl ?_
  refine y_p0 C dX5_number_1 kyX5_isFigure knX5_isFigure kmX5_270 hr.o (c_X5_isFigure l hr hT) (by decide) (Nat.zero_le _) (Nat.zero_le _) (Nat.le_of_ble_eq_true rfl) (fun z1 q1 => ?_)
  refine x_if_ne (tgt := 9) C dX5_number_4 (by decide) (fun c4 => ?_) (fun c4 => ?_)
  · obtain ⟨c, R1, rfl⟩ := hd0_c (R := R) (by omega)
    have hd : hd0 (c :: R1) = c := rfl
    have hgl := hh.2.2.2.2
    simp only [List.length_cons] at hgl
    refine x_aload_n C dX5_number_9 rfl ?_
    refine y_p0 C dX5_number_10 kyX5_here knX5_here kmX5_267 hr.o (c_X5_here l hr hT) (by decide) (Nat.zero_le _) (Nat.zero_le _) (Nat.le_of_ble_eq_true rfl) (fun z10 q10 => ?_)
    have q10 : c = z10 := q10.symm
    subst q10
    refine x_bipush C dX5_number_13 ⟨by decide, by decide⟩ ?_
    refine x_isub C dX5_number_15 (by first | (unfold iR; omega) | exact ⟨by omega, by omega⟩) ?_
    refine s_is5_4 C dX5_number_16 rfl ?_
    refine x_aload_n C dX5_number_18 rfl ?_
    refine x_dup C dX5_number_19 rfl ?_
    refine x_get C dX5_number_20 kfX5_264 hr.o rfl ?_
    refine x_iconst C dX5_number_23 ⟨by decide, by decide⟩ ?_
    refine x_iadd C dX5_number_24 (by first | (unfold iR; omega) | exact ⟨by omega, by omega⟩) ?_
    refine x_put C dX5_number_25 kfX5_264 kw_5_38 rfl rfl hr.o (Nat.le_of_ble_eq_true rfl) ?_
    refine ab_M_ra hr hf (fun w hr hf => ?_)
    have hT := hT.s
    have hh := hT.h jt
    refine x_aload_n C dX5_number_28 rfl ?_
    refine y_p0 C dX5_number_29 kyX5_isFigure knX5_isFigure kmX5_270 hr.o (c_X5_isFigure l hr hT) (by decide) (Nat.zero_le _) (Nat.zero_le _) (Nat.le_of_ble_eq_true rfl) (fun z29 q29 => ?_)
    refine x_if_eq (tgt := 60) C dX5_number_32 (by decide) (fun c32 => ?_) (fun c32 => ?_)
    · have hA : numA (c :: R1) = some (c - 48, R1) := numA_1 (by omega) (by omega)
      refine x_aload_n C dX5_number_60 rfl ?_
      refine x_iload C dX5_number_61 rfl ?_
      refine x_put C dX5_number_63 kfX5_274 kw_5_39 rfl rfl hr.o (Nat.le_of_ble_eq_true rfl) ?_
      refine ab_M_rn hr hf (fun w hr hf => ?_)
      refine x_aload_n C dX5_number_66 rfl ?_
      refine y_p0 C dX5_number_67 kyX5_here knX5_here kmX5_267 hr.o (c_X5_here l hr hT) (by decide) (Nat.zero_le _) (Nat.zero_le _) (Nat.le_of_ble_eq_true rfl) (fun z67 q67 => ?_)
      refine x_iload_n C dX5_number_70 rfl ?_
      refine x_icmp_ne (tgt := 84) C dX5_number_71 (by decide) (fun c71 => ?_) (fun c71 => ?_)
      · refine x_iconst C dX5_number_84 ⟨by decide, by decide⟩ ?_
        refine x_zret C hQ dX5_number_85 (by first | exact Or.inl rfl | exact Or.inr rfl | omega) (Nat.le_refl _) (Nat.le_refl _) ?_
        exact ⟨rfl, _, rfl, _, _, hr, hf, Or.inl ⟨by rw [numR_s hA, if_neg (by omega)], rfl⟩⟩
      · refine x_iload C dX5_number_74 rfl ?_
        refine x_iload_n C dX5_number_76 rfl ?_
        refine x_iload_n C dX5_number_77 rfl ?_
        refine z_p3 C dX5_number_78 kyX5_in ksX5_in kmX5_103 (c_X5_in l _ a b) (by decide) (Nat.zero_le _) (Nat.zero_le _) (Nat.le_of_ble_eq_true rfl) (fun z78 q78 => ?_)
        refine x_if_ne (tgt := 86) C dX5_number_81 (by decide) (fun c81 => ?_) (fun c81 => ?_)
        · refine x_aload_n C dX5_number_86 rfl ?_
          refine x_dup C dX5_number_87 rfl ?_
          refine x_get C dX5_number_88 kfX5_264 hr.o rfl ?_
          refine x_iconst C dX5_number_91 ⟨by decide, by decide⟩ ?_
          refine x_iadd C dX5_number_92 (by first | (unfold iR; omega) | exact ⟨by omega, by omega⟩) ?_
          refine x_put C dX5_number_93 kfX5_264 kw_5_38 rfl rfl hr.o (Nat.le_of_ble_eq_true rfl) ?_
          refine ab_M_ra hr hf (fun w hr hf => ?_)
          refine x_iconst C dX5_number_96 ⟨by decide, by decide⟩ ?_
          refine x_zret C hQ dX5_number_97 (by first | exact Or.inl rfl | exact Or.inr rfl | omega) (Nat.le_refl _) (Nat.le_refl _) ?_
          exact ⟨rfl, _, rfl, _, _, hr, hf, Or.inr ⟨_, by rw [numR_s hA, if_pos ⟨by omega, by omega, by omega⟩], rfl, hT.t (by omega)⟩⟩
        · refine x_iconst C dX5_number_84 ⟨by decide, by decide⟩ ?_
          refine x_zret C hQ dX5_number_85 (by first | exact Or.inl rfl | exact Or.inr rfl | omega) (Nat.le_refl _) (Nat.le_refl _) ?_
          exact ⟨rfl, _, rfl, _, _, hr, hf, Or.inl ⟨by rw [numR_s hA, if_neg (by omega)], rfl⟩⟩
    · obtain ⟨c2, R2, rfl⟩ := hd0_c (R := R1) (by omega)
      have hd2 : hd0 (c2 :: R2) = c2 := rfl
      have hgl2 := hh.2.2.2.2
      simp only [List.length_cons] at hgl2
      refine x_bipush C dX5_number_35 ⟨by decide, by decide⟩ ?_
      refine x_iload C dX5_number_37 rfl ?_
      refine x_imul C dX5_number_39 (by first | (unfold iR; omega) | exact ⟨by omega, by omega⟩) ?_
      refine x_aload_n C dX5_number_40 rfl ?_
      refine y_p0 C dX5_number_41 kyX5_here knX5_here kmX5_267 hr.o (c_X5_here l hr hT) (by decide) (Nat.zero_le _) (Nat.zero_le _) (Nat.le_of_ble_eq_true rfl) (fun z41 q41 => ?_)
      have q41 : c2 = z41 := q41.symm
      subst q41
      refine x_iadd C dX5_number_44 (by first | (unfold iR; omega) | exact ⟨by omega, by omega⟩) ?_
      refine x_bipush C dX5_number_45 ⟨by decide, by decide⟩ ?_
      refine x_isub C dX5_number_47 (by first | (unfold iR; omega) | exact ⟨by omega, by omega⟩) ?_
      refine s_is5_4 C dX5_number_48 rfl ?_
      refine x_aload_n C dX5_number_50 rfl ?_
      refine x_dup C dX5_number_51 rfl ?_
      refine x_get C dX5_number_52 kfX5_264 hr.o rfl ?_
      refine x_iconst C dX5_number_55 ⟨by decide, by decide⟩ ?_
      refine x_iadd C dX5_number_56 (by first | (unfold iR; omega) | exact ⟨by omega, by omega⟩) ?_
      refine x_put C dX5_number_57 kfX5_264 kw_5_38 rfl rfl hr.o (Nat.le_of_ble_eq_true rfl) ?_
      refine ab_M_ra hr hf (fun w hr hf => ?_)
      have hT := hT.s
      have hh := hT.h jt
      have hA : numA (c :: c2 :: R2) = some (10 * (c - 48) + c2 - 48, R2) := numA_2 (by omega) (by omega)
      refine x_aload_n C dX5_number_60 rfl ?_
      refine x_iload C dX5_number_61 rfl ?_
      refine x_put C dX5_number_63 kfX5_274 kw_5_39 rfl rfl hr.o (Nat.le_of_ble_eq_true rfl) ?_
      refine ab_M_rn hr hf (fun w hr hf => ?_)
      refine x_aload_n C dX5_number_66 rfl ?_
      refine y_p0 C dX5_number_67 kyX5_here knX5_here kmX5_267 hr.o (c_X5_here l hr hT) (by decide) (Nat.zero_le _) (Nat.zero_le _) (Nat.le_of_ble_eq_true rfl) (fun z67 q67 => ?_)
      refine x_iload_n C dX5_number_70 rfl ?_
      refine x_icmp_ne (tgt := 84) C dX5_number_71 (by decide) (fun c71 => ?_) (fun c71 => ?_)
      · refine x_iconst C dX5_number_84 ⟨by decide, by decide⟩ ?_
        refine x_zret C hQ dX5_number_85 (by first | exact Or.inl rfl | exact Or.inr rfl | omega) (Nat.le_refl _) (Nat.le_refl _) ?_
        exact ⟨rfl, _, rfl, _, _, hr, hf, Or.inl ⟨by rw [numR_s hA, if_neg (by omega)], rfl⟩⟩
      · refine x_iload C dX5_number_74 rfl ?_
        refine x_iload_n C dX5_number_76 rfl ?_
        refine x_iload_n C dX5_number_77 rfl ?_
        refine z_p3 C dX5_number_78 kyX5_in ksX5_in kmX5_103 (c_X5_in l _ a b) (by decide) (Nat.zero_le _) (Nat.zero_le _) (Nat.le_of_ble_eq_true rfl) (fun z78 q78 => ?_)
        refine x_if_ne (tgt := 86) C dX5_number_81 (by decide) (fun c81 => ?_) (fun c81 => ?_)
        · refine x_aload_n C dX5_number_86 rfl ?_
          refine x_dup C dX5_number_87 rfl ?_
          refine x_get C dX5_number_88 kfX5_264 hr.o rfl ?_
          refine x_iconst C dX5_number_91 ⟨by decide, by decide⟩ ?_
          refine x_iadd C dX5_number_92 (by first | (unfold iR; omega) | exact ⟨by omega, by omega⟩) ?_
          refine x_put C dX5_number_93 kfX5_264 kw_5_38 rfl rfl hr.o (Nat.le_of_ble_eq_true rfl) ?_
          refine ab_M_ra hr hf (fun w hr hf => ?_)
          refine x_iconst C dX5_number_96 ⟨by decide, by decide⟩ ?_
          refine x_zret C hQ dX5_number_97 (by first | exact Or.inl rfl | exact Or.inr rfl | omega) (Nat.le_refl _) (Nat.le_refl _) ?_
          exact ⟨rfl, _, rfl, _, _, hr, hf, Or.inr ⟨_, by rw [numR_s hA, if_pos ⟨by omega, by omega, by omega⟩], rfl, hT.t (by omega)⟩⟩
        · refine x_iconst C dX5_number_84 ⟨by decide, by decide⟩ ?_
          refine x_zret C hQ dX5_number_85 (by first | exact Or.inl rfl | exact Or.inr rfl | omega) (Nat.le_refl _) (Nat.le_refl _) ?_
          exact ⟨rfl, _, rfl, _, _, hr, hf, Or.inl ⟨by rw [numR_s hA, if_neg (by omega)], rfl⟩⟩
  · refine x_iconst C dX5_number_7 ⟨by decide, by decide⟩ ?_
    refine x_zret C hQ dX5_number_8 (by first | exact Or.inl rfl | exact Or.inr rfl | omega) (Nat.le_refl _) (Nat.le_refl _) ?_
    exact ⟨rfl, _, rfl, _, _, hr, hf, Or.inl ⟨numR_n (numA_0 (by omega)), rfl⟩⟩

set_option maxHeartbeats 1000000 in
set_option maxRecDepth 100000 in
theorem c_X5_readsFold (l : Launch) {w : mW} {h : Nat} {F : mF} {um sm wp wr ac  ra rn : Int} {M14 M15 M16 M17 M18 M19 M20 M21  M23 : List Int} {tx jt R : List Int} (hN : isN w h F um sm wp wr ac tx.length ra rn M14 M15 M16 M17 M18 M19 M20 M21 (tx ++ jt) M23) (hW : wfF F) (hT : atT tx ra R) (hch : ∀ c ∈ tx, 32 ≤ c ∧ c ≤ 126) : Ci l yX5_readsFold cX5_readsFold 2 (some .boolean) 3 [vr h] w (fun z w' => ∃ (G : mF) (ra rn : Int), isN w' h G um sm wp wr ac tx.length ra rn M14 M15 M16 M17 M18 M19 M20 M21 (tx ++ jt) M23 ∧ frR w w' h (h + 23) ∧ rdO tx (rFo F R) z ra G) := by
  refine Ci.of (ml := [some (vr h), none]) kyX5_readsFold rfl (Nat.le_of_ble_eq_true rfl) rfl ?_
  intro t n C hQ
  have hN2 := hN
  have hf : frR w w h (h + 23) := frR.rf
  obtain ⟨j1, j2, j3, j4, j5, j6, pi, lr, lc, M7, M8, M9, M10, M11, M12, M13, hr⟩ := hN
  obtain ⟨f1, f2, f3, f4, f5, f6, f7, f8, f9, f10, f11, f12⟩ := id hW
  have hw : ∀ f ∈ F.1.2.1, (0 ≤ f.1 ∧ f.1 ≤ 100) ∧ (0 ≤ f.2.1 ∧ f.2.1 ≤ 100) ∧ (f.2.2 = 0 ∨ f.2.2 = 1) := fun f hf9 => by have := f4 f hf9; omega
  have l22 := hr.l22
  simp only [List.length_append] at l22
  have hh := hT.h jt
  refine x_aload_n C dX5_readsFold_0 rfl ?_
  refine x_get C dX5_readsFold_1 kfX5_107 hr.o rfl ?_
  refine x_iconst C dX5_readsFold_4 ⟨by decide, by decide⟩ ?_
  refine x_icmp_eq (tgt := 22) C dX5_readsFold_5 (by decide) (fun c5 => ?_) (fun c5 => ?_)
  · refine x_iconst C dX5_readsFold_22 ⟨by decide, by decide⟩ ?_
    refine x_zret C hQ dX5_readsFold_23 (by first | exact Or.inl rfl | exact Or.inr rfl | omega) (Nat.le_refl _) (Nat.le_refl _) ?_
    exact ⟨rfl, _, rfl, F, _, _, ⟨j1, j2, j3, j4, j5, j6, pi, lr, lc, M7, M8, M9, M10, M11, M12, M13, hr⟩, hf, Or.inl ⟨rFo_1 (by omega), rfl⟩⟩
  · refine x_aload_n C dX5_readsFold_8 rfl ?_
    refine x_iconst C dX5_readsFold_9 ⟨by decide, by decide⟩ ?_
    refine x_aload_n C dX5_readsFold_10 rfl ?_
    refine x_get C dX5_readsFold_11 kfX5_89 hr.o rfl ?_
    refine x_bipush C dX5_readsFold_14 ⟨by decide, by decide⟩ ?_
    refine y_i3 C dX5_readsFold_16 kyX5_number knX5_number kmX5_277 hr.o (c_X5_number l hr hT (0) (F.1.1.length) 44 (by decide)) (by decide) (Nat.zero_le _) (Nat.zero_le _) (Nat.le_of_ble_eq_true rfl) (fun z16 w16 q16 => ?_)
    obtain ⟨ra1, rn1, hr, hf9, q16⟩ := q16
    have hf := hf.tr hf9
    have hh := hh
    refine x_if_ne (tgt := 24) C dX5_readsFold_19 (by decide) (fun c19 => ?_) (fun c19 => ?_)
    · obtain ⟨R1, e1, hT⟩ := q16.yes (by omega)
      have hb1 := (numR_c e1).1
      have hh := hT.h jt
      refine x_aload_n C dX5_readsFold_24 rfl ?_
      refine x_get C dX5_readsFold_25 kfX5_274 hr.o rfl ?_
      refine s_ist2_1 C dX5_readsFold_28 rfl ?_
      refine x_aload_n C dX5_readsFold_29 rfl ?_
      refine x_iload_n C dX5_readsFold_30 rfl ?_
      refine x_iconst C dX5_readsFold_31 ⟨by decide, by decide⟩ ?_
      refine x_iadd C dX5_readsFold_32 (by first | (unfold iR; omega) | exact ⟨by omega, by omega⟩) ?_
      refine x_aload_n C dX5_readsFold_33 rfl ?_
      refine x_get C dX5_readsFold_34 kfX5_89 hr.o rfl ?_
      refine x_bipush C dX5_readsFold_37 ⟨by decide, by decide⟩ ?_
      refine y_i3 C dX5_readsFold_39 kyX5_number knX5_number kmX5_277 hr.o (c_X5_number l hr hT (rn1 + 1) (F.1.1.length) 59 (by decide)) (by decide) (Nat.zero_le _) (Nat.zero_le _) (Nat.le_of_ble_eq_true rfl) (fun z39 w39 q39 => ?_)
      obtain ⟨ra2, rn2, hr, hf9, q39⟩ := q39
      have hf := hf.tr hf9
      have hh := hh
      refine x_if_eq (tgt := 57) C dX5_readsFold_42 (by decide) (fun c42 => ?_) (fun c42 => ?_)
      · refine x_iconst C dX5_readsFold_57 ⟨by decide, by decide⟩ ?_
        refine x_zret C hQ dX5_readsFold_58 (by first | exact Or.inl rfl | exact Or.inr rfl | omega) (Nat.le_refl _) (Nat.le_refl _) ?_
        exact ⟨rfl, _, rfl, F, _, _, ⟨j1, j2, j3, j4, j5, j6, pi, lr, lc, M7, M8, M9, M10, M11, M12, M13, hr⟩, hf, Or.inl ⟨rFo_3 e1 (q39.no (by omega)), rfl⟩⟩
      · obtain ⟨R2, e2, hT⟩ := q39.yes (by omega)
        have hb2 := (numR_c e2).1
        have hh := hT.h jt
        refine x_aload_n C dX5_readsFold_45 rfl ?_
        refine x_iload_n C dX5_readsFold_46 rfl ?_
        refine x_aload_n C dX5_readsFold_47 rfl ?_
        refine x_get C dX5_readsFold_48 kfX5_274 hr.o rfl ?_
        refine y_p2 C dX5_readsFold_51 kyX5_isApart knX5_isApart kmX5_205 hr.o (c_X5_isApart l hr rn1 rn2) (by decide) (Nat.zero_le _) (Nat.zero_le _) (Nat.le_of_ble_eq_true rfl) (fun z51 q51 => ?_)
        refine x_if_ne (tgt := 59) C dX5_readsFold_54 (by decide) (fun c54 => ?_) (fun c54 => ?_)
        · refine x_aload_n C dX5_readsFold_59 rfl ?_
          refine x_iload_n C dX5_readsFold_60 rfl ?_
          refine x_aload_n C dX5_readsFold_61 rfl ?_
          refine x_get C dX5_readsFold_62 kfX5_274 hr.o rfl ?_
          refine x_iconst C dX5_readsFold_65 ⟨by decide, by decide⟩ ?_
          refine y_i3 C dX5_readsFold_66 kyX5_comesFold knX5_comesFold kmX5_92 hr.o (c_X5_comesFold l hr rn1 rn2 1 (by omega)) (by decide) (Nat.zero_le _) (Nat.zero_le _) (Nat.le_of_ble_eq_true rfl) (fun z66 w66 q66 => ?_)
          obtain ⟨l9, j2, j3, j4, hi9, hr, hf9⟩ := q66
          have hf := hf.tr hf9
          obtain ⟨rfl, rfl⟩ := insK_fun hi9
          refine x_pop C dX5_readsFold_69 rfl ?_
          refine x_iconst C dX5_readsFold_70 ⟨by decide, by decide⟩ ?_
          refine x_zret C hQ dX5_readsFold_71 (by first | exact Or.inl rfl | exact Or.inr rfl | omega) (Nat.le_refl _) (Nat.le_refl _) ?_
          exact ⟨rfl, _, rfl, ((F.1.1, insL (fun q => q.1) (rn1, rn2, 1) F.1.2.1, F.1.2.2), F.2), _, _, ⟨j1, j2, j3, j4, j5, j6, pi, lr, lc, M7, M8, M9, M10, M11, M12, M13, hr⟩, hf, Or.inr ⟨_, rFo_5 (by omega) e1 e2 ((any01 q51).2 (by omega)), rfl, hT⟩⟩
        · refine x_iconst C dX5_readsFold_57 ⟨by decide, by decide⟩ ?_
          refine x_zret C hQ dX5_readsFold_58 (by first | exact Or.inl rfl | exact Or.inr rfl | omega) (Nat.le_refl _) (Nat.le_refl _) ?_
          exact ⟨rfl, _, rfl, F, _, _, ⟨j1, j2, j3, j4, j5, j6, pi, lr, lc, M7, M8, M9, M10, M11, M12, M13, hr⟩, hf, Or.inl ⟨rFo_4 e1 e2 ((any01 q51).1 (by omega)), rfl⟩⟩
    · refine x_iconst C dX5_readsFold_22 ⟨by decide, by decide⟩ ?_
      refine x_zret C hQ dX5_readsFold_23 (by first | exact Or.inl rfl | exact Or.inr rfl | omega) (Nat.le_refl _) (Nat.le_refl _) ?_
      exact ⟨rfl, _, rfl, F, _, _, ⟨j1, j2, j3, j4, j5, j6, pi, lr, lc, M7, M8, M9, M10, M11, M12, M13, hr⟩, hf, Or.inl ⟨rFo_2 (q16.no (by omega)), rfl⟩⟩

set_option maxHeartbeats 1000000 in
set_option maxRecDepth 100000 in
theorem c_X5_readsHint (l : Launch) {w : mW} {h : Nat} {F : mF} {um sm wp wr ac  ra rn : Int} {M14 M15 M16 M17 M18 M19 M20 M21  M23 : List Int} {tx jt R : List Int} (hN : isN w h F um sm wp wr ac tx.length ra rn M14 M15 M16 M17 M18 M19 M20 M21 (tx ++ jt) M23) (hW : wfF F) (hT : atT tx ra R) (hch : ∀ c ∈ tx, 32 ≤ c ∧ c ≤ 126) : Ci l yX5_readsHint cX5_readsHint 2 (some .boolean) 3 [vr h] w (fun z w' => ∃ (G : mF) (ra rn : Int), isN w' h G um sm wp wr ac tx.length ra rn M14 M15 M16 M17 M18 M19 M20 M21 (tx ++ jt) M23 ∧ frR w w' h (h + 23) ∧ rdO tx (rHi F R) z ra G) := by
  refine Ci.of (ml := [some (vr h), none]) kyX5_readsHint rfl (Nat.le_of_ble_eq_true rfl) rfl ?_
  intro t n C hQ
  have hN2 := hN
  have hf : frR w w h (h + 23) := frR.rf
  obtain ⟨j1, j2, j3, j4, j5, j6, pi, lr, lc, M7, M8, M9, M10, M11, M12, M13, hr⟩ := hN
  obtain ⟨f1, f2, f3, f4, f5, f6, f7, f8, f9, f10, f11, f12⟩ := id hW
  have hw : ∀ f ∈ F.1.2.1, (0 ≤ f.1 ∧ f.1 ≤ 100) ∧ (0 ≤ f.2.1 ∧ f.2.1 ≤ 100) ∧ (f.2.2 = 0 ∨ f.2.2 = 1) := fun f hf9 => by have := f4 f hf9; omega
  have l22 := hr.l22
  simp only [List.length_append] at l22
  have hh := hT.h jt
  refine x_aload_n C dX5_readsHint_0 rfl ?_
  refine x_get C dX5_readsHint_1 kfX5_110 hr.o rfl ?_
  refine x_iconst C dX5_readsHint_4 ⟨by decide, by decide⟩ ?_
  refine x_icmp_eq (tgt := 22) C dX5_readsHint_5 (by decide) (fun c5 => ?_) (fun c5 => ?_)
  · refine x_iconst C dX5_readsHint_22 ⟨by decide, by decide⟩ ?_
    refine x_zret C hQ dX5_readsHint_23 (by first | exact Or.inl rfl | exact Or.inr rfl | omega) (Nat.le_refl _) (Nat.le_refl _) ?_
    exact ⟨rfl, _, rfl, F, _, _, ⟨j1, j2, j3, j4, j5, j6, pi, lr, lc, M7, M8, M9, M10, M11, M12, M13, hr⟩, hf, Or.inl ⟨rHi_1 (by omega), rfl⟩⟩
  · refine x_aload_n C dX5_readsHint_8 rfl ?_
    refine x_iconst C dX5_readsHint_9 ⟨by decide, by decide⟩ ?_
    refine x_aload_n C dX5_readsHint_10 rfl ?_
    refine x_get C dX5_readsHint_11 kfX5_89 hr.o rfl ?_
    refine x_bipush C dX5_readsHint_14 ⟨by decide, by decide⟩ ?_
    refine y_i3 C dX5_readsHint_16 kyX5_number knX5_number kmX5_277 hr.o (c_X5_number l hr hT (0) (F.1.1.length) 44 (by decide)) (by decide) (Nat.zero_le _) (Nat.zero_le _) (Nat.le_of_ble_eq_true rfl) (fun z16 w16 q16 => ?_)
    obtain ⟨ra1, rn1, hr, hf9, q16⟩ := q16
    have hf := hf.tr hf9
    have hh := hh
    refine x_if_ne (tgt := 24) C dX5_readsHint_19 (by decide) (fun c19 => ?_) (fun c19 => ?_)
    · obtain ⟨R1, e1, hT⟩ := q16.yes (by omega)
      have hb1 := (numR_c e1).1
      have hh := hT.h jt
      refine x_aload_n C dX5_readsHint_24 rfl ?_
      refine x_get C dX5_readsHint_25 kfX5_274 hr.o rfl ?_
      refine s_ist2_1 C dX5_readsHint_28 rfl ?_
      refine x_aload_n C dX5_readsHint_29 rfl ?_
      refine x_iload_n C dX5_readsHint_30 rfl ?_
      refine y_p1 C dX5_readsHint_31 kyX5_hintOf knX5_hintOf kmX5_120 hr.o (c_X5_hintOf l hr f8 rn1) (by decide) (Nat.zero_le _) (Nat.zero_le _) (Nat.le_of_ble_eq_true rfl) (fun z31 q31 => ?_)
      have h4i := fI4_i (pH rn1) F.1.2.2
      refine x_bipush C dX5_readsHint_34 ⟨by decide, by decide⟩ ?_
      refine x_icmp_ne (tgt := 50) C dX5_readsHint_36 (by decide) (fun c36 => ?_) (fun c36 => ?_)
      · refine x_iconst C dX5_readsHint_50 ⟨by decide, by decide⟩ ?_
        refine x_zret C hQ dX5_readsHint_51 (by first | exact Or.inl rfl | exact Or.inr rfl | omega) (Nat.le_refl _) (Nat.le_refl _) ?_
        exact ⟨rfl, _, rfl, F, _, _, ⟨j1, j2, j3, j4, j5, j6, pi, lr, lc, M7, M8, M9, M10, M11, M12, M13, hr⟩, hf, Or.inl ⟨rHi_3 e1 ((any_fIdx (pH rn1) F.1.2.2).mpr (by omega)), rfl⟩⟩
      · refine x_aload_n C dX5_readsHint_39 rfl ?_
        refine x_iconst C dX5_readsHint_40 ⟨by decide, by decide⟩ ?_
        refine x_iconst C dX5_readsHint_41 ⟨by decide, by decide⟩ ?_
        refine x_bipush C dX5_readsHint_42 ⟨by decide, by decide⟩ ?_
        refine y_i3 C dX5_readsHint_44 kyX5_number knX5_number kmX5_277 hr.o (c_X5_number l hr hT (1) (5) 59 (by decide)) (by decide) (Nat.zero_le _) (Nat.zero_le _) (Nat.le_of_ble_eq_true rfl) (fun z44 w44 q44 => ?_)
        obtain ⟨ra2, rn2, hr, hf9, q44⟩ := q44
        have hf := hf.tr hf9
        have hh := hh
        refine x_if_ne (tgt := 52) C dX5_readsHint_47 (by decide) (fun c47 => ?_) (fun c47 => ?_)
        · obtain ⟨R2, e2, hT⟩ := q44.yes (by omega)
          have hb2 := (numR_c e2).1
          have hh := hT.h jt
          refine x_aload_n C dX5_readsHint_52 rfl ?_
          refine x_iload_n C dX5_readsHint_53 rfl ?_
          refine x_aload_n C dX5_readsHint_54 rfl ?_
          refine x_get C dX5_readsHint_55 kfX5_274 hr.o rfl ?_
          refine y_i2 C dX5_readsHint_58 kyX5_comesHint knX5_comesHint kmX5_96 hr.o (c_X5_comesHint l hr rn1 rn2 (by omega)) (by decide) (Nat.zero_le _) (Nat.zero_le _) (Nat.le_of_ble_eq_true rfl) (fun z58 w58 q58 => ?_)
          obtain ⟨l9, j5, j6, hi9, hr, hf9⟩ := q58
          have hf := hf.tr hf9
          obtain ⟨rfl, rfl⟩ := insK_fun hi9
          refine x_pop C dX5_readsHint_61 rfl ?_
          refine x_iconst C dX5_readsHint_62 ⟨by decide, by decide⟩ ?_
          refine x_zret C hQ dX5_readsHint_63 (by first | exact Or.inl rfl | exact Or.inr rfl | omega) (Nat.le_refl _) (Nat.le_refl _) ?_
          exact ⟨rfl, _, rfl, ((F.1.1, F.1.2.1, insL (fun q => q.1) (rn1, rn2) F.1.2.2), F.2), _, _, ⟨j1, j2, j3, j4, j5, j6, pi, lr, lc, M7, M8, M9, M10, M11, M12, M13, hr⟩, hf, Or.inr ⟨_, rHi_5 (by omega) e1 (fun h9 => by have := (any_fIdx (pH rn1) F.1.2.2).mp h9; omega) e2, rfl, hT⟩⟩
        · refine x_iconst C dX5_readsHint_50 ⟨by decide, by decide⟩ ?_
          refine x_zret C hQ dX5_readsHint_51 (by first | exact Or.inl rfl | exact Or.inr rfl | omega) (Nat.le_refl _) (Nat.le_refl _) ?_
          exact ⟨rfl, _, rfl, F, _, _, ⟨j1, j2, j3, j4, j5, j6, pi, lr, lc, M7, M8, M9, M10, M11, M12, M13, hr⟩, hf, Or.inl ⟨rHi_4 e1 (q44.no (by omega)), rfl⟩⟩
    · refine x_iconst C dX5_readsHint_22 ⟨by decide, by decide⟩ ?_
      refine x_zret C hQ dX5_readsHint_23 (by first | exact Or.inl rfl | exact Or.inr rfl | omega) (Nat.le_refl _) (Nat.le_refl _) ?_
      exact ⟨rfl, _, rfl, F, _, _, ⟨j1, j2, j3, j4, j5, j6, pi, lr, lc, M7, M8, M9, M10, M11, M12, M13, hr⟩, hf, Or.inl ⟨rHi_2 (q16.no (by omega)), rfl⟩⟩

set_option maxHeartbeats 1000000 in
set_option maxRecDepth 100000 in
theorem c_X5_readsWide (l : Launch) {w : mW} {h : Nat} {F : mF} {um sm wp wr ac  ra rn : Int} {M14 M15 M16 M17 M18 M19 M20 M21  M23 : List Int} {tx jt R : List Int} (hN : isN w h F um sm wp wr ac tx.length ra rn M14 M15 M16 M17 M18 M19 M20 M21 (tx ++ jt) M23) (hW : wfF F) (hT : atT tx ra R) (hch : ∀ c ∈ tx, 32 ≤ c ∧ c ≤ 126) : Ci l yX5_readsWide cX5_readsWide 3 (some .boolean) 3 [vr h] w (fun z w' => ∃ (G : mF) (ra rn : Int), isN w' h G um sm wp wr ac tx.length ra rn M14 M15 M16 M17 M18 M19 M20 M21 (tx ++ jt) M23 ∧ frR w w' h (h + 23) ∧ rdO tx (rWi F R) z ra G) := by
  refine Ci.of (ml := [some (vr h), none, none]) kyX5_readsWide rfl (Nat.le_of_ble_eq_true rfl) rfl ?_
  intro t n C hQ
  have hN2 := hN
  have hf : frR w w h (h + 23) := frR.rf
  obtain ⟨j1, j2, j3, j4, j5, j6, pi, lr, lc, M7, M8, M9, M10, M11, M12, M13, hr⟩ := hN
  obtain ⟨f1, f2, f3, f4, f5, f6, f7, f8, f9, f10, f11, f12⟩ := id hW
  have hw : ∀ f ∈ F.1.2.1, (0 ≤ f.1 ∧ f.1 ≤ 100) ∧ (0 ≤ f.2.1 ∧ f.2.1 ≤ 100) ∧ (f.2.2 = 0 ∨ f.2.2 = 1) := fun f hf9 => by have := f4 f hf9; omega
  have l22 := hr.l22
  simp only [List.length_append] at l22
  have hh := hT.h jt
  refine x_aload_n C dX5_readsWide_0 rfl ?_
  refine x_iconst C dX5_readsWide_1 ⟨by decide, by decide⟩ ?_
  refine x_iconst C dX5_readsWide_2 ⟨by decide, by decide⟩ ?_
  refine x_bipush C dX5_readsWide_3 ⟨by decide, by decide⟩ ?_
  refine y_i3 C dX5_readsWide_5 kyX5_number knX5_number kmX5_277 hr.o (c_X5_number l hr hT (0) (2) 44 (by decide)) (by decide) (Nat.zero_le _) (Nat.zero_le _) (Nat.le_of_ble_eq_true rfl) (fun z5 w5 q5 => ?_)
  obtain ⟨ra1, rn1, hr, hf9, q5⟩ := q5
  have hf := hf.tr hf9
  have hh := hh
  refine x_if_ne (tgt := 13) C dX5_readsWide_8 (by decide) (fun c8 => ?_) (fun c8 => ?_)
  · obtain ⟨R1, e1, hT⟩ := q5.yes (by omega)
    have hb1 := (numR_c e1).1
    have hh := hT.h jt
    refine x_aload_n C dX5_readsWide_13 rfl ?_
    refine x_get C dX5_readsWide_14 kfX5_274 hr.o rfl ?_
    refine s_ist3_1 C dX5_readsWide_17 rfl ?_
    refine x_aload_n C dX5_readsWide_18 rfl ?_
    refine x_iconst C dX5_readsWide_19 ⟨by decide, by decide⟩ ?_
    refine x_bipush C dX5_readsWide_20 ⟨by decide, by decide⟩ ?_
    refine x_bipush C dX5_readsWide_22 ⟨by decide, by decide⟩ ?_
    refine y_i3 C dX5_readsWide_24 kyX5_number knX5_number kmX5_277 hr.o (c_X5_number l hr hT (4) (20) 44 (by decide)) (by decide) (Nat.zero_le _) (Nat.zero_le _) (Nat.le_of_ble_eq_true rfl) (fun z24 w24 q24 => ?_)
    obtain ⟨ra2, rn2, hr, hf9, q24⟩ := q24
    have hf := hf.tr hf9
    have hh := hh
    refine x_if_ne (tgt := 32) C dX5_readsWide_27 (by decide) (fun c27 => ?_) (fun c27 => ?_)
    · obtain ⟨R2, e2, hT⟩ := q24.yes (by omega)
      have hb2 := (numR_c e2).1
      have hh := hT.h jt
      refine x_aload_n C dX5_readsWide_32 rfl ?_
      refine x_get C dX5_readsWide_33 kfX5_274 hr.o rfl ?_
      refine s_ist3_2 C dX5_readsWide_36 rfl ?_
      refine x_aload_n C dX5_readsWide_37 rfl ?_
      refine x_iconst C dX5_readsWide_38 ⟨by decide, by decide⟩ ?_
      refine x_iconst C dX5_readsWide_39 ⟨by decide, by decide⟩ ?_
      refine x_bipush C dX5_readsWide_40 ⟨by decide, by decide⟩ ?_
      refine y_i3 C dX5_readsWide_42 kyX5_number knX5_number kmX5_277 hr.o (c_X5_number l hr hT (0) (3) 59 (by decide)) (by decide) (Nat.zero_le _) (Nat.zero_le _) (Nat.le_of_ble_eq_true rfl) (fun z42 w42 q42 => ?_)
      obtain ⟨ra3, rn3, hr, hf9, q42⟩ := q42
      have hf := hf.tr hf9
      have hh := hh
      refine x_if_ne (tgt := 50) C dX5_readsWide_45 (by decide) (fun c45 => ?_) (fun c45 => ?_)
      · obtain ⟨R3, e3, hT⟩ := q42.yes (by omega)
        have hb3 := (numR_c e3).1
        have hh := hT.h jt
        refine x_aload_n C dX5_readsWide_50 rfl ?_
        refine x_iload_n C dX5_readsWide_51 rfl ?_
        refine x_put C dX5_readsWide_52 kfX5_28 kw_5_9 rfl rfl hr.o (Nat.le_of_ble_eq_true rfl) ?_
        refine ab_M_mo hr hf (fun w hr hf => ?_)
        refine x_aload_n C dX5_readsWide_55 rfl ?_
        refine x_iload_n C dX5_readsWide_56 rfl ?_
        refine x_put C dX5_readsWide_57 kfX5_32 kw_5_10 rfl rfl hr.o (Nat.le_of_ble_eq_true rfl) ?_
        refine ab_M_wi hr hf (fun w hr hf => ?_)
        refine x_aload_n C dX5_readsWide_60 rfl ?_
        refine x_aload_n C dX5_readsWide_61 rfl ?_
        refine x_get C dX5_readsWide_62 kfX5_274 hr.o rfl ?_
        refine x_put C dX5_readsWide_65 kfX5_100 kw_5_11 rfl rfl hr.o (Nat.le_of_ble_eq_true rfl) ?_
        refine ab_M_nd hr hf (fun w hr hf => ?_)
        refine x_iconst C dX5_readsWide_68 ⟨by decide, by decide⟩ ?_
        refine x_zret C hQ dX5_readsWide_69 (by first | exact Or.inl rfl | exact Or.inr rfl | omega) (Nat.le_refl _) (Nat.le_refl _) ?_
        exact ⟨rfl, _, rfl, (F.1, rn1, rn2, rn3, F.2.2.2.2), _, _, ⟨j1, j2, j3, j4, j5, j6, pi, lr, lc, M7, M8, M9, M10, M11, M12, M13, hr⟩, hf, Or.inr ⟨_, rWi_4 e1 e2 e3, rfl, hT⟩⟩
      · refine x_iconst C dX5_readsWide_48 ⟨by decide, by decide⟩ ?_
        refine x_zret C hQ dX5_readsWide_49 (by first | exact Or.inl rfl | exact Or.inr rfl | omega) (Nat.le_refl _) (Nat.le_refl _) ?_
        exact ⟨rfl, _, rfl, F, _, _, ⟨j1, j2, j3, j4, j5, j6, pi, lr, lc, M7, M8, M9, M10, M11, M12, M13, hr⟩, hf, Or.inl ⟨rWi_3 e1 e2 (q42.no (by omega)), rfl⟩⟩
    · refine x_iconst C dX5_readsWide_30 ⟨by decide, by decide⟩ ?_
      refine x_zret C hQ dX5_readsWide_31 (by first | exact Or.inl rfl | exact Or.inr rfl | omega) (Nat.le_refl _) (Nat.le_refl _) ?_
      exact ⟨rfl, _, rfl, F, _, _, ⟨j1, j2, j3, j4, j5, j6, pi, lr, lc, M7, M8, M9, M10, M11, M12, M13, hr⟩, hf, Or.inl ⟨rWi_2 e1 (q24.no (by omega)), rfl⟩⟩
  · refine x_iconst C dX5_readsWide_11 ⟨by decide, by decide⟩ ?_
    refine x_zret C hQ dX5_readsWide_12 (by first | exact Or.inl rfl | exact Or.inr rfl | omega) (Nat.le_refl _) (Nat.le_refl _) ?_
    exact ⟨rfl, _, rfl, F, _, _, ⟨j1, j2, j3, j4, j5, j6, pi, lr, lc, M7, M8, M9, M10, M11, M12, M13, hr⟩, hf, Or.inl ⟨rWi_1 (q5.no (by omega)), rfl⟩⟩

set_option maxHeartbeats 1000000 in
set_option maxRecDepth 100000 in
theorem c_X5_readsTabs (l : Launch) {w : mW} {h : Nat} {F : mF} {um sm wp wr ac  ra rn : Int} {M14 M15 M16 M17 M18 M19 M20 M21  M23 : List Int} {tx jt R : List Int} (hN : isN w h F um sm wp wr ac tx.length ra rn M14 M15 M16 M17 M18 M19 M20 M21 (tx ++ jt) M23) (hW : wfF F) (hT : atT tx ra R) (hch : ∀ c ∈ tx, 32 ≤ c ∧ c ≤ 126) : Ci l yX5_readsTabs cX5_readsTabs 1 (some .boolean) 3 [vr h] w (fun z w' => ∃ (G : mF) (ra rn : Int), isN w' h G um sm wp wr ac tx.length ra rn M14 M15 M16 M17 M18 M19 M20 M21 (tx ++ jt) M23 ∧ frR w w' h (h + 23) ∧ rdO tx (rTb F R) z ra G) := by
  refine Ci.of (ml := [some (vr h)]) kyX5_readsTabs rfl (Nat.le_of_ble_eq_true rfl) rfl ?_
  intro t n C hQ
  have hN2 := hN
  have hf : frR w w h (h + 23) := frR.rf
  obtain ⟨j1, j2, j3, j4, j5, j6, pi, lr, lc, M7, M8, M9, M10, M11, M12, M13, hr⟩ := hN
  obtain ⟨f1, f2, f3, f4, f5, f6, f7, f8, f9, f10, f11, f12⟩ := id hW
  have hw : ∀ f ∈ F.1.2.1, (0 ≤ f.1 ∧ f.1 ≤ 100) ∧ (0 ≤ f.2.1 ∧ f.2.1 ≤ 100) ∧ (f.2.2 = 0 ∨ f.2.2 = 1) := fun f hf9 => by have := f4 f hf9; omega
  have l22 := hr.l22
  simp only [List.length_append] at l22
  have hh := hT.h jt
  refine x_aload_n C dX5_readsTabs_0 rfl ?_
  refine x_iconst C dX5_readsTabs_1 ⟨by decide, by decide⟩ ?_
  refine x_bipush C dX5_readsTabs_2 ⟨by decide, by decide⟩ ?_
  refine x_bipush C dX5_readsTabs_4 ⟨by decide, by decide⟩ ?_
  refine y_i3 C dX5_readsTabs_6 kyX5_number knX5_number kmX5_277 hr.o (c_X5_number l hr hT (1) (8) 59 (by decide)) (by decide) (Nat.zero_le _) (Nat.zero_le _) (Nat.le_of_ble_eq_true rfl) (fun z6 w6 q6 => ?_)
  obtain ⟨ra1, rn1, hr, hf9, q6⟩ := q6
  have hf := hf.tr hf9
  have hh := hh
  refine x_if_ne (tgt := 14) C dX5_readsTabs_9 (by decide) (fun c9 => ?_) (fun c9 => ?_)
  · obtain ⟨R1, e1, hT⟩ := q6.yes (by omega)
    have hb1 := (numR_c e1).1
    have hh := hT.h jt
    refine x_aload_n C dX5_readsTabs_14 rfl ?_
    refine x_aload_n C dX5_readsTabs_15 rfl ?_
    refine x_get C dX5_readsTabs_16 kfX5_274 hr.o rfl ?_
    refine x_put C dX5_readsTabs_19 kfX5_35 kw_5_12 rfl rfl hr.o (Nat.le_of_ble_eq_true rfl) ?_
    refine ab_M_tb hr hf (fun w hr hf => ?_)
    refine x_iconst C dX5_readsTabs_22 ⟨by decide, by decide⟩ ?_
    refine x_zret C hQ dX5_readsTabs_23 (by first | exact Or.inl rfl | exact Or.inr rfl | omega) (Nat.le_refl _) (Nat.le_refl _) ?_
    exact ⟨rfl, _, rfl, (F.1, F.2.1, F.2.2.1, F.2.2.2.1, rn1), _, _, ⟨j1, j2, j3, j4, j5, j6, pi, lr, lc, M7, M8, M9, M10, M11, M12, M13, hr⟩, hf, Or.inr ⟨_, rTb_2 e1, rfl, hT⟩⟩
  · refine x_iconst C dX5_readsTabs_12 ⟨by decide, by decide⟩ ?_
    refine x_zret C hQ dX5_readsTabs_13 (by first | exact Or.inl rfl | exact Or.inr rfl | omega) (Nat.le_refl _) (Nat.le_refl _) ?_
    exact ⟨rfl, _, rfl, F, _, _, ⟨j1, j2, j3, j4, j5, j6, pi, lr, lc, M7, M8, M9, M10, M11, M12, M13, hr⟩, hf, Or.inl ⟨rTb_1 (q6.no (by omega)), rfl⟩⟩

set_option maxHeartbeats 1000000 in
set_option maxRecDepth 100000 in
theorem lp_X5_readsSigns {t : TX} {l : Launch} {n0 : Nat} {w0 : mW} {h : Nat} {F : mF} {um sm wp wr ac  rn : Int} {M14 M15 M16 M17 M18 M19 M20 M21  M23 : List Int} {tx jt : List Int} {j2 j3 j4 j5 j6 : List Int} {pi lr lc : Int} {M7 M8 M9 M10 M11 M12 M13 : List Int} (hch : ∀ c ∈ tx, 32 ≤ c ∧ c ≤ 126) (C : Cb t l cX5_readsSigns RX5 3 (some .boolean) 1 0 0) {Q : Int → mW → Prop} (hQ : RQ t 0 0 (fun r n' w' => n' = n0 ∧ ∃ z : Int, r = some (vi z) ∧ Q z w')) : ∀ (R sg j1 : List Int) (ra : Int) (x1 x2 : Option mV) (w : mW), rM w h sg.length F.1.2.1.length F.1.2.2.length F.2.1 F.2.2.1 F.2.2.2.1 F.2.2.2.2 pi lr lc um sm wp wr ac tx.length ra rn (sg ++ j1) (F.1.2.1.map (fun f => f.1) ++ j2) (F.1.2.1.map (fun f => f.2.1) ++ j3) (F.1.2.1.map (fun f => f.2.2) ++ j4) (F.1.2.2.map (fun q => q.1) ++ j5) (F.1.2.2.map (fun q => q.2) ++ j6) M7 M8 M9 M10 M11 M12 M13 M14 M15 M16 M17 M18 M19 M20 M21 (tx ++ jt) M23 → frR w0 w h (h + 23) → atT tx ra R → sg.length ≤ 40 → (∀ (z : Int) (w : mW) (G : mF) (ra : Int), isN w h G um sm wp wr ac tx.length ra rn M14 M15 M16 M17 M18 M19 M20 M21 (tx ++ jt) M23 → frR w0 w h (h + 23) → rdO tx ((sgnR R sg).map (fun q => (((q.1, F.1.2), F.2), q.2))) z ra G → Q z w) → J t 0 0 0 [some (vr h), x1, x2] [] n0 w := by
  intro R
  induction R with
  | nil =>
    intro sg j1 ra x1 x2 w hr hf hT hsg hq
    have hd : hd0 ([] : List Int) = 0 := rfl
    have l1 := hr.l1
    simp only [List.length_append] at l1
    have l22 := hr.l22
    simp only [List.length_append] at l22
    refine x_aload_n C dX5_readsSigns_0 rfl ?_
    refine y_p0 C dX5_readsSigns_1 kyX5_here knX5_here kmX5_267 hr.o (c_X5_here l hr hT) (by decide) (Nat.zero_le _) (Nat.zero_le _) (Nat.le_of_ble_eq_true rfl) (fun z1 q1 => ?_)
    refine x_bipush C dX5_readsSigns_4 ⟨by decide, by decide⟩ ?_
    refine x_icmp_eq (tgt := 116) C dX5_readsSigns_6 (by decide) (fun c6 => absurd c6 (by omega)) (fun c6 => ?_)
    refine x_aload_n C dX5_readsSigns_9 rfl ?_
    refine y_p0 C dX5_readsSigns_10 kyX5_here knX5_here kmX5_267 hr.o (c_X5_here l hr hT) (by decide) (Nat.zero_le _) (Nat.zero_le _) (Nat.le_of_ble_eq_true rfl) (fun z10 q10 => ?_)
    subst q10
    refine s_ist3_1 C dX5_readsSigns_13 rfl ?_
    refine x_iload_n C dX5_readsSigns_14 rfl ?_
    refine x_bipush C dX5_readsSigns_15 ⟨by decide, by decide⟩ ?_
    refine x_bipush C dX5_readsSigns_17 ⟨by decide, by decide⟩ ?_
    refine z_p3 C dX5_readsSigns_19 kyX5_in ksX5_in kmX5_103 (c_X5_in l (hd0 []) 97 122) (by decide) (Nat.zero_le _) (Nat.zero_le _) (Nat.le_of_ble_eq_true rfl) (fun z19 q19 => ?_)
    refine x_if_ne (tgt := 37) C dX5_readsSigns_22 (by decide) (fun c22 => absurd c22 (by omega)) (fun c22 => ?_)
    refine x_iload_n C dX5_readsSigns_25 rfl ?_
    refine x_bipush C dX5_readsSigns_26 ⟨by decide, by decide⟩ ?_
    refine x_icmp_eq (tgt := 37) C dX5_readsSigns_28 (by decide) (fun c28 => absurd c28 (by omega)) (fun c28 => ?_)
    refine x_iload_n C dX5_readsSigns_31 rfl ?_
    refine x_bipush C dX5_readsSigns_32 ⟨by decide, by decide⟩ ?_
    refine x_icmp_ne (tgt := 41) C dX5_readsSigns_34 (by decide) (fun c34 => ?_) (fun c34 => absurd c34 (by omega))
    refine x_iconst C dX5_readsSigns_41 ⟨by decide, by decide⟩ ?_
    refine s_ist3_2 C dX5_readsSigns_42 rfl ?_
    refine x_iload_n C dX5_readsSigns_43 rfl ?_
    refine x_if_eq (tgt := 56) C dX5_readsSigns_44 (by decide) (fun c44 => ?_) (fun c44 => absurd c44 (by omega))
    refine x_iconst C dX5_readsSigns_56 ⟨by decide, by decide⟩ ?_
    refine x_zret C hQ dX5_readsSigns_57 (by first | exact Or.inl rfl | exact Or.inr rfl | omega) (Nat.le_refl _) (Nat.le_refl _) ?_
    exact ⟨rfl, _, rfl, hq _ w ((sg, F.1.2), F.2) _ ⟨j1, j2, j3, j4, j5, j6, pi, lr, lc, M7, M8, M9, M10, M11, M12, M13, hr⟩ hf (Or.inl ⟨by rw [sgnR]; rfl, rfl⟩)⟩
  | cons c R ih =>
    intro sg j1 ra x1 x2 w hr hf hT hsg hq
    have hd : hd0 (c :: R) = c := rfl
    have hc := hch c (hT.m c List.mem_cons_self)
    have hh := hT.h jt
    have l1 := hr.l1
    simp only [List.length_append] at l1
    have l22 := hr.l22
    simp only [List.length_append] at l22
    refine x_aload_n C dX5_readsSigns_0 rfl ?_
    refine y_p0 C dX5_readsSigns_1 kyX5_here knX5_here kmX5_267 hr.o (c_X5_here l hr hT) (by decide) (Nat.zero_le _) (Nat.zero_le _) (Nat.le_of_ble_eq_true rfl) (fun z1 q1 => ?_)
    refine x_bipush C dX5_readsSigns_4 ⟨by decide, by decide⟩ ?_
    refine x_icmp_eq (tgt := 116) C dX5_readsSigns_6 (by decide) (fun c6 => ?_) (fun c6 => ?_)
    · refine x_aload_n C dX5_readsSigns_116 rfl ?_
      refine x_dup C dX5_readsSigns_117 rfl ?_
      refine x_get C dX5_readsSigns_118 kfX5_264 hr.o rfl ?_
      refine x_iconst C dX5_readsSigns_121 ⟨by decide, by decide⟩ ?_
      refine x_iadd C dX5_readsSigns_122 (by first | (unfold iR; omega) | exact ⟨by omega, by omega⟩) ?_
      refine x_put C dX5_readsSigns_123 kfX5_264 kw_5_38 rfl rfl hr.o (Nat.le_of_ble_eq_true rfl) ?_
      refine ab_M_ra hr hf (fun w hr hf => ?_)
      refine x_iconst C dX5_readsSigns_126 ⟨by decide, by decide⟩ ?_
      refine x_zret C hQ dX5_readsSigns_127 (by first | exact Or.inl rfl | exact Or.inr rfl | omega) (Nat.le_refl _) (Nat.le_refl _) ?_
      exact ⟨rfl, _, rfl, hq _ w ((sg, F.1.2), F.2) _ ⟨j1, j2, j3, j4, j5, j6, pi, lr, lc, M7, M8, M9, M10, M11, M12, M13, hr⟩ hf (Or.inr ⟨R, by rw [sgnR, if_pos (by omega)]; rfl, rfl, hT.s⟩)⟩
    · refine x_aload_n C dX5_readsSigns_9 rfl ?_
      refine y_p0 C dX5_readsSigns_10 kyX5_here knX5_here kmX5_267 hr.o (c_X5_here l hr hT) (by decide) (Nat.zero_le _) (Nat.zero_le _) (Nat.le_of_ble_eq_true rfl) (fun z10 q10 => ?_)
      have q10 : c = z10 := q10.symm
      subst q10
      refine s_ist3_1 C dX5_readsSigns_13 rfl ?_
      refine x_iload_n C dX5_readsSigns_14 rfl ?_
      refine x_bipush C dX5_readsSigns_15 ⟨by decide, by decide⟩ ?_
      refine x_bipush C dX5_readsSigns_17 ⟨by decide, by decide⟩ ?_
      refine z_p3 C dX5_readsSigns_19 kyX5_in ksX5_in kmX5_103 (c_X5_in l c 97 122) (by decide) (Nat.zero_le _) (Nat.zero_le _) (Nat.le_of_ble_eq_true rfl) (fun z19 q19 => ?_)
      refine x_if_ne (tgt := 37) C dX5_readsSigns_22 (by decide) (fun c22 => ?_) (fun c22 => ?_)
      · refine x_iconst C dX5_readsSigns_37 ⟨by decide, by decide⟩ ?_
        refine x_goto (tgt := 42) C dX5_readsSigns_38 (by decide) ?_
        refine s_ist3_2 C dX5_readsSigns_42 rfl ?_
        refine x_iload_n C dX5_readsSigns_43 rfl ?_
        refine x_if_eq (tgt := 56) C dX5_readsSigns_44 (by decide) (fun c44 => ?_) (fun c44 => ?_)
        · omega
        · refine x_aload_n C dX5_readsSigns_47 rfl ?_
          refine x_get C dX5_readsSigns_48 kfX5_89 hr.o rfl ?_
          refine x_bipush C dX5_readsSigns_51 ⟨by decide, by decide⟩ ?_
          refine x_icmp_ne (tgt := 58) C dX5_readsSigns_53 (by decide) (fun c53 => ?_) (fun c53 => ?_)
          · obtain ⟨x9, j1, rfl⟩ : ∃ u v, j1 = u :: v := List.exists_cons_of_length_pos (by omega)
            refine x_aload_n C dX5_readsSigns_58 rfl ?_
            refine x_get C dX5_readsSigns_59 kfX5_7 hr.o rfl ?_
            refine x_aload_n C dX5_readsSigns_62 rfl ?_
            refine x_get C dX5_readsSigns_63 kfX5_89 hr.o rfl ?_
            refine x_iload_n C dX5_readsSigns_66 rfl ?_
            refine x_bipush C dX5_readsSigns_67 ⟨by decide, by decide⟩ ?_
            refine x_icmp_ne (tgt := 77) C dX5_readsSigns_69 (by decide) (fun c69 => ?_) (fun c69 => ?_)
            · refine x_iload_n C dX5_readsSigns_77 rfl ?_
              refine x_bipush C dX5_readsSigns_78 ⟨by decide, by decide⟩ ?_
              refine x_icmp_ne (tgt := 88) C dX5_readsSigns_80 (by decide) (fun c80 => ?_) (fun c80 => ?_)
              · refine x_iload_n C dX5_readsSigns_88 rfl ?_
                refine x_bipush C dX5_readsSigns_89 ⟨by decide, by decide⟩ ?_
                refine x_isub C dX5_readsSigns_91 (by first | (unfold iR; omega) | exact ⟨by omega, by omega⟩) ?_
                refine x_iast C dX5_readsSigns_92 hr.a1 (by omega) (by rw [hr.l1]; omega) ?_
                refine ab_M_M1 hr hf (by rw [List.length_set]; exact hr.l1) (fun w hr hf => ?_)
                refine x_aload_n C dX5_readsSigns_93 rfl ?_
                refine x_dup C dX5_readsSigns_94 rfl ?_
                refine x_get C dX5_readsSigns_95 kfX5_89 hr.o rfl ?_
                refine x_iconst C dX5_readsSigns_98 ⟨by decide, by decide⟩ ?_
                refine x_iadd C dX5_readsSigns_99 (by first | (unfold iR; omega) | exact ⟨by omega, by omega⟩) ?_
                refine x_put C dX5_readsSigns_100 kfX5_89 kw_5_0 rfl rfl hr.o (Nat.le_of_ble_eq_true rfl) ?_
                refine ab_M_mn hr hf (fun w hr hf => ?_)
                refine x_aload_n C dX5_readsSigns_103 rfl ?_
                refine x_dup C dX5_readsSigns_104 rfl ?_
                refine x_get C dX5_readsSigns_105 kfX5_264 hr.o rfl ?_
                refine x_iconst C dX5_readsSigns_108 ⟨by decide, by decide⟩ ?_
                refine x_iadd C dX5_readsSigns_109 (by first | (unfold iR; omega) | exact ⟨by omega, by omega⟩) ?_
                refine x_put C dX5_readsSigns_110 kfX5_264 kw_5_38 rfl rfl hr.o (Nat.le_of_ble_eq_true rfl) ?_
                refine ab_M_ra hr hf (fun w hr hf => ?_)
                refine x_goto (tgt := 0) C dX5_readsSigns_113 (by decide) ?_
                have hsv : sgnF c = c - 97 := by unfold sgnF; (repeat' split) <;> omega
                rw [set_mid sg x9 _ j1 (by omega)] at hr
                rw [show (sg.length : Int) + 1 = ((sg ++ [sgnF c]).length : Nat) by simp, show sg ++ (c - 97) :: j1 = (sg ++ [sgnF c]) ++ j1 by rw [hsv]; simp] at hr
                refine ih (sg ++ [sgnF c]) j1 (ra + 1) _ _ w hr hf hT.s (by simp; omega) (fun z w9 G ra9 h6 h7 h8 => hq z w9 G ra9 h6 h7 ?_)
                rw [sgnR, if_neg (by omega), if_neg (by omega)]
                exact h8
              · refine x_bipush C dX5_readsSigns_83 ⟨by decide, by decide⟩ ?_
                refine x_goto (tgt := 92) C dX5_readsSigns_85 (by decide) ?_
                refine x_iast C dX5_readsSigns_92 hr.a1 (by omega) (by rw [hr.l1]; omega) ?_
                refine ab_M_M1 hr hf (by rw [List.length_set]; exact hr.l1) (fun w hr hf => ?_)
                refine x_aload_n C dX5_readsSigns_93 rfl ?_
                refine x_dup C dX5_readsSigns_94 rfl ?_
                refine x_get C dX5_readsSigns_95 kfX5_89 hr.o rfl ?_
                refine x_iconst C dX5_readsSigns_98 ⟨by decide, by decide⟩ ?_
                refine x_iadd C dX5_readsSigns_99 (by first | (unfold iR; omega) | exact ⟨by omega, by omega⟩) ?_
                refine x_put C dX5_readsSigns_100 kfX5_89 kw_5_0 rfl rfl hr.o (Nat.le_of_ble_eq_true rfl) ?_
                refine ab_M_mn hr hf (fun w hr hf => ?_)
                refine x_aload_n C dX5_readsSigns_103 rfl ?_
                refine x_dup C dX5_readsSigns_104 rfl ?_
                refine x_get C dX5_readsSigns_105 kfX5_264 hr.o rfl ?_
                refine x_iconst C dX5_readsSigns_108 ⟨by decide, by decide⟩ ?_
                refine x_iadd C dX5_readsSigns_109 (by first | (unfold iR; omega) | exact ⟨by omega, by omega⟩) ?_
                refine x_put C dX5_readsSigns_110 kfX5_264 kw_5_38 rfl rfl hr.o (Nat.le_of_ble_eq_true rfl) ?_
                refine ab_M_ra hr hf (fun w hr hf => ?_)
                refine x_goto (tgt := 0) C dX5_readsSigns_113 (by decide) ?_
                have hsv : sgnF c = 27 := by unfold sgnF; (repeat' split) <;> omega
                rw [set_mid sg x9 _ j1 (by omega)] at hr
                rw [show (sg.length : Int) + 1 = ((sg ++ [sgnF c]).length : Nat) by simp, show sg ++ (27) :: j1 = (sg ++ [sgnF c]) ++ j1 by rw [hsv]; simp] at hr
                refine ih (sg ++ [sgnF c]) j1 (ra + 1) _ _ w hr hf hT.s (by simp; omega) (fun z w9 G ra9 h6 h7 h8 => hq z w9 G ra9 h6 h7 ?_)
                rw [sgnR, if_neg (by omega), if_neg (by omega)]
                exact h8
            · refine x_bipush C dX5_readsSigns_72 ⟨by decide, by decide⟩ ?_
              refine x_goto (tgt := 92) C dX5_readsSigns_74 (by decide) ?_
              refine x_iast C dX5_readsSigns_92 hr.a1 (by omega) (by rw [hr.l1]; omega) ?_
              refine ab_M_M1 hr hf (by rw [List.length_set]; exact hr.l1) (fun w hr hf => ?_)
              refine x_aload_n C dX5_readsSigns_93 rfl ?_
              refine x_dup C dX5_readsSigns_94 rfl ?_
              refine x_get C dX5_readsSigns_95 kfX5_89 hr.o rfl ?_
              refine x_iconst C dX5_readsSigns_98 ⟨by decide, by decide⟩ ?_
              refine x_iadd C dX5_readsSigns_99 (by first | (unfold iR; omega) | exact ⟨by omega, by omega⟩) ?_
              refine x_put C dX5_readsSigns_100 kfX5_89 kw_5_0 rfl rfl hr.o (Nat.le_of_ble_eq_true rfl) ?_
              refine ab_M_mn hr hf (fun w hr hf => ?_)
              refine x_aload_n C dX5_readsSigns_103 rfl ?_
              refine x_dup C dX5_readsSigns_104 rfl ?_
              refine x_get C dX5_readsSigns_105 kfX5_264 hr.o rfl ?_
              refine x_iconst C dX5_readsSigns_108 ⟨by decide, by decide⟩ ?_
              refine x_iadd C dX5_readsSigns_109 (by first | (unfold iR; omega) | exact ⟨by omega, by omega⟩) ?_
              refine x_put C dX5_readsSigns_110 kfX5_264 kw_5_38 rfl rfl hr.o (Nat.le_of_ble_eq_true rfl) ?_
              refine ab_M_ra hr hf (fun w hr hf => ?_)
              refine x_goto (tgt := 0) C dX5_readsSigns_113 (by decide) ?_
              have hsv : sgnF c = 26 := by unfold sgnF; (repeat' split) <;> omega
              rw [set_mid sg x9 _ j1 (by omega)] at hr
              rw [show (sg.length : Int) + 1 = ((sg ++ [sgnF c]).length : Nat) by simp, show sg ++ (26) :: j1 = (sg ++ [sgnF c]) ++ j1 by rw [hsv]; simp] at hr
              refine ih (sg ++ [sgnF c]) j1 (ra + 1) _ _ w hr hf hT.s (by simp; omega) (fun z w9 G ra9 h6 h7 h8 => hq z w9 G ra9 h6 h7 ?_)
              rw [sgnR, if_neg (by omega), if_neg (by omega)]
              exact h8
          · refine x_iconst C dX5_readsSigns_56 ⟨by decide, by decide⟩ ?_
            refine x_zret C hQ dX5_readsSigns_57 (by first | exact Or.inl rfl | exact Or.inr rfl | omega) (Nat.le_refl _) (Nat.le_refl _) ?_
            exact ⟨rfl, _, rfl, hq _ w ((sg, F.1.2), F.2) _ ⟨j1, j2, j3, j4, j5, j6, pi, lr, lc, M7, M8, M9, M10, M11, M12, M13, hr⟩ hf (Or.inl ⟨by rw [sgnR, if_neg (by omega), if_pos (Or.inr (by omega))]; rfl, rfl⟩)⟩
      · refine x_iload_n C dX5_readsSigns_25 rfl ?_
        refine x_bipush C dX5_readsSigns_26 ⟨by decide, by decide⟩ ?_
        refine x_icmp_eq (tgt := 37) C dX5_readsSigns_28 (by decide) (fun c28 => ?_) (fun c28 => ?_)
        · refine x_iconst C dX5_readsSigns_37 ⟨by decide, by decide⟩ ?_
          refine x_goto (tgt := 42) C dX5_readsSigns_38 (by decide) ?_
          refine s_ist3_2 C dX5_readsSigns_42 rfl ?_
          refine x_iload_n C dX5_readsSigns_43 rfl ?_
          refine x_if_eq (tgt := 56) C dX5_readsSigns_44 (by decide) (fun c44 => ?_) (fun c44 => ?_)
          · omega
          · refine x_aload_n C dX5_readsSigns_47 rfl ?_
            refine x_get C dX5_readsSigns_48 kfX5_89 hr.o rfl ?_
            refine x_bipush C dX5_readsSigns_51 ⟨by decide, by decide⟩ ?_
            refine x_icmp_ne (tgt := 58) C dX5_readsSigns_53 (by decide) (fun c53 => ?_) (fun c53 => ?_)
            · obtain ⟨x9, j1, rfl⟩ : ∃ u v, j1 = u :: v := List.exists_cons_of_length_pos (by omega)
              refine x_aload_n C dX5_readsSigns_58 rfl ?_
              refine x_get C dX5_readsSigns_59 kfX5_7 hr.o rfl ?_
              refine x_aload_n C dX5_readsSigns_62 rfl ?_
              refine x_get C dX5_readsSigns_63 kfX5_89 hr.o rfl ?_
              refine x_iload_n C dX5_readsSigns_66 rfl ?_
              refine x_bipush C dX5_readsSigns_67 ⟨by decide, by decide⟩ ?_
              refine x_icmp_ne (tgt := 77) C dX5_readsSigns_69 (by decide) (fun c69 => ?_) (fun c69 => ?_)
              · refine x_iload_n C dX5_readsSigns_77 rfl ?_
                refine x_bipush C dX5_readsSigns_78 ⟨by decide, by decide⟩ ?_
                refine x_icmp_ne (tgt := 88) C dX5_readsSigns_80 (by decide) (fun c80 => ?_) (fun c80 => ?_)
                · refine x_iload_n C dX5_readsSigns_88 rfl ?_
                  refine x_bipush C dX5_readsSigns_89 ⟨by decide, by decide⟩ ?_
                  refine x_isub C dX5_readsSigns_91 (by first | (unfold iR; omega) | exact ⟨by omega, by omega⟩) ?_
                  refine x_iast C dX5_readsSigns_92 hr.a1 (by omega) (by rw [hr.l1]; omega) ?_
                  refine ab_M_M1 hr hf (by rw [List.length_set]; exact hr.l1) (fun w hr hf => ?_)
                  refine x_aload_n C dX5_readsSigns_93 rfl ?_
                  refine x_dup C dX5_readsSigns_94 rfl ?_
                  refine x_get C dX5_readsSigns_95 kfX5_89 hr.o rfl ?_
                  refine x_iconst C dX5_readsSigns_98 ⟨by decide, by decide⟩ ?_
                  refine x_iadd C dX5_readsSigns_99 (by first | (unfold iR; omega) | exact ⟨by omega, by omega⟩) ?_
                  refine x_put C dX5_readsSigns_100 kfX5_89 kw_5_0 rfl rfl hr.o (Nat.le_of_ble_eq_true rfl) ?_
                  refine ab_M_mn hr hf (fun w hr hf => ?_)
                  refine x_aload_n C dX5_readsSigns_103 rfl ?_
                  refine x_dup C dX5_readsSigns_104 rfl ?_
                  refine x_get C dX5_readsSigns_105 kfX5_264 hr.o rfl ?_
                  refine x_iconst C dX5_readsSigns_108 ⟨by decide, by decide⟩ ?_
                  refine x_iadd C dX5_readsSigns_109 (by first | (unfold iR; omega) | exact ⟨by omega, by omega⟩) ?_
                  refine x_put C dX5_readsSigns_110 kfX5_264 kw_5_38 rfl rfl hr.o (Nat.le_of_ble_eq_true rfl) ?_
                  refine ab_M_ra hr hf (fun w hr hf => ?_)
                  refine x_goto (tgt := 0) C dX5_readsSigns_113 (by decide) ?_
                  have hsv : sgnF c = c - 97 := by unfold sgnF; (repeat' split) <;> omega
                  rw [set_mid sg x9 _ j1 (by omega)] at hr
                  rw [show (sg.length : Int) + 1 = ((sg ++ [sgnF c]).length : Nat) by simp, show sg ++ (c - 97) :: j1 = (sg ++ [sgnF c]) ++ j1 by rw [hsv]; simp] at hr
                  refine ih (sg ++ [sgnF c]) j1 (ra + 1) _ _ w hr hf hT.s (by simp; omega) (fun z w9 G ra9 h6 h7 h8 => hq z w9 G ra9 h6 h7 ?_)
                  rw [sgnR, if_neg (by omega), if_neg (by omega)]
                  exact h8
                · refine x_bipush C dX5_readsSigns_83 ⟨by decide, by decide⟩ ?_
                  refine x_goto (tgt := 92) C dX5_readsSigns_85 (by decide) ?_
                  refine x_iast C dX5_readsSigns_92 hr.a1 (by omega) (by rw [hr.l1]; omega) ?_
                  refine ab_M_M1 hr hf (by rw [List.length_set]; exact hr.l1) (fun w hr hf => ?_)
                  refine x_aload_n C dX5_readsSigns_93 rfl ?_
                  refine x_dup C dX5_readsSigns_94 rfl ?_
                  refine x_get C dX5_readsSigns_95 kfX5_89 hr.o rfl ?_
                  refine x_iconst C dX5_readsSigns_98 ⟨by decide, by decide⟩ ?_
                  refine x_iadd C dX5_readsSigns_99 (by first | (unfold iR; omega) | exact ⟨by omega, by omega⟩) ?_
                  refine x_put C dX5_readsSigns_100 kfX5_89 kw_5_0 rfl rfl hr.o (Nat.le_of_ble_eq_true rfl) ?_
                  refine ab_M_mn hr hf (fun w hr hf => ?_)
                  refine x_aload_n C dX5_readsSigns_103 rfl ?_
                  refine x_dup C dX5_readsSigns_104 rfl ?_
                  refine x_get C dX5_readsSigns_105 kfX5_264 hr.o rfl ?_
                  refine x_iconst C dX5_readsSigns_108 ⟨by decide, by decide⟩ ?_
                  refine x_iadd C dX5_readsSigns_109 (by first | (unfold iR; omega) | exact ⟨by omega, by omega⟩) ?_
                  refine x_put C dX5_readsSigns_110 kfX5_264 kw_5_38 rfl rfl hr.o (Nat.le_of_ble_eq_true rfl) ?_
                  refine ab_M_ra hr hf (fun w hr hf => ?_)
                  refine x_goto (tgt := 0) C dX5_readsSigns_113 (by decide) ?_
                  have hsv : sgnF c = 27 := by unfold sgnF; (repeat' split) <;> omega
                  rw [set_mid sg x9 _ j1 (by omega)] at hr
                  rw [show (sg.length : Int) + 1 = ((sg ++ [sgnF c]).length : Nat) by simp, show sg ++ (27) :: j1 = (sg ++ [sgnF c]) ++ j1 by rw [hsv]; simp] at hr
                  refine ih (sg ++ [sgnF c]) j1 (ra + 1) _ _ w hr hf hT.s (by simp; omega) (fun z w9 G ra9 h6 h7 h8 => hq z w9 G ra9 h6 h7 ?_)
                  rw [sgnR, if_neg (by omega), if_neg (by omega)]
                  exact h8
              · refine x_bipush C dX5_readsSigns_72 ⟨by decide, by decide⟩ ?_
                refine x_goto (tgt := 92) C dX5_readsSigns_74 (by decide) ?_
                refine x_iast C dX5_readsSigns_92 hr.a1 (by omega) (by rw [hr.l1]; omega) ?_
                refine ab_M_M1 hr hf (by rw [List.length_set]; exact hr.l1) (fun w hr hf => ?_)
                refine x_aload_n C dX5_readsSigns_93 rfl ?_
                refine x_dup C dX5_readsSigns_94 rfl ?_
                refine x_get C dX5_readsSigns_95 kfX5_89 hr.o rfl ?_
                refine x_iconst C dX5_readsSigns_98 ⟨by decide, by decide⟩ ?_
                refine x_iadd C dX5_readsSigns_99 (by first | (unfold iR; omega) | exact ⟨by omega, by omega⟩) ?_
                refine x_put C dX5_readsSigns_100 kfX5_89 kw_5_0 rfl rfl hr.o (Nat.le_of_ble_eq_true rfl) ?_
                refine ab_M_mn hr hf (fun w hr hf => ?_)
                refine x_aload_n C dX5_readsSigns_103 rfl ?_
                refine x_dup C dX5_readsSigns_104 rfl ?_
                refine x_get C dX5_readsSigns_105 kfX5_264 hr.o rfl ?_
                refine x_iconst C dX5_readsSigns_108 ⟨by decide, by decide⟩ ?_
                refine x_iadd C dX5_readsSigns_109 (by first | (unfold iR; omega) | exact ⟨by omega, by omega⟩) ?_
                refine x_put C dX5_readsSigns_110 kfX5_264 kw_5_38 rfl rfl hr.o (Nat.le_of_ble_eq_true rfl) ?_
                refine ab_M_ra hr hf (fun w hr hf => ?_)
                refine x_goto (tgt := 0) C dX5_readsSigns_113 (by decide) ?_
                have hsv : sgnF c = 26 := by unfold sgnF; (repeat' split) <;> omega
                rw [set_mid sg x9 _ j1 (by omega)] at hr
                rw [show (sg.length : Int) + 1 = ((sg ++ [sgnF c]).length : Nat) by simp, show sg ++ (26) :: j1 = (sg ++ [sgnF c]) ++ j1 by rw [hsv]; simp] at hr
                refine ih (sg ++ [sgnF c]) j1 (ra + 1) _ _ w hr hf hT.s (by simp; omega) (fun z w9 G ra9 h6 h7 h8 => hq z w9 G ra9 h6 h7 ?_)
                rw [sgnR, if_neg (by omega), if_neg (by omega)]
                exact h8
            · refine x_iconst C dX5_readsSigns_56 ⟨by decide, by decide⟩ ?_
              refine x_zret C hQ dX5_readsSigns_57 (by first | exact Or.inl rfl | exact Or.inr rfl | omega) (Nat.le_refl _) (Nat.le_refl _) ?_
              exact ⟨rfl, _, rfl, hq _ w ((sg, F.1.2), F.2) _ ⟨j1, j2, j3, j4, j5, j6, pi, lr, lc, M7, M8, M9, M10, M11, M12, M13, hr⟩ hf (Or.inl ⟨by rw [sgnR, if_neg (by omega), if_pos (Or.inr (by omega))]; rfl, rfl⟩)⟩
        · refine x_iload_n C dX5_readsSigns_31 rfl ?_
          refine x_bipush C dX5_readsSigns_32 ⟨by decide, by decide⟩ ?_
          refine x_icmp_ne (tgt := 41) C dX5_readsSigns_34 (by decide) (fun c34 => ?_) (fun c34 => ?_)
          · refine x_iconst C dX5_readsSigns_41 ⟨by decide, by decide⟩ ?_
            refine s_ist3_2 C dX5_readsSigns_42 rfl ?_
            refine x_iload_n C dX5_readsSigns_43 rfl ?_
            refine x_if_eq (tgt := 56) C dX5_readsSigns_44 (by decide) (fun c44 => ?_) (fun c44 => ?_)
            · refine x_iconst C dX5_readsSigns_56 ⟨by decide, by decide⟩ ?_
              refine x_zret C hQ dX5_readsSigns_57 (by first | exact Or.inl rfl | exact Or.inr rfl | omega) (Nat.le_refl _) (Nat.le_refl _) ?_
              exact ⟨rfl, _, rfl, hq _ w ((sg, F.1.2), F.2) _ ⟨j1, j2, j3, j4, j5, j6, pi, lr, lc, M7, M8, M9, M10, M11, M12, M13, hr⟩ hf (Or.inl ⟨by rw [sgnR, if_neg (by omega), if_pos (Or.inl (by unfold sgnF; (repeat' split) <;> omega))]; rfl, rfl⟩)⟩
            · omega
          · refine x_iconst C dX5_readsSigns_37 ⟨by decide, by decide⟩ ?_
            refine x_goto (tgt := 42) C dX5_readsSigns_38 (by decide) ?_
            refine s_ist3_2 C dX5_readsSigns_42 rfl ?_
            refine x_iload_n C dX5_readsSigns_43 rfl ?_
            refine x_if_eq (tgt := 56) C dX5_readsSigns_44 (by decide) (fun c44 => ?_) (fun c44 => ?_)
            · omega
            · refine x_aload_n C dX5_readsSigns_47 rfl ?_
              refine x_get C dX5_readsSigns_48 kfX5_89 hr.o rfl ?_
              refine x_bipush C dX5_readsSigns_51 ⟨by decide, by decide⟩ ?_
              refine x_icmp_ne (tgt := 58) C dX5_readsSigns_53 (by decide) (fun c53 => ?_) (fun c53 => ?_)
              · obtain ⟨x9, j1, rfl⟩ : ∃ u v, j1 = u :: v := List.exists_cons_of_length_pos (by omega)
                refine x_aload_n C dX5_readsSigns_58 rfl ?_
                refine x_get C dX5_readsSigns_59 kfX5_7 hr.o rfl ?_
                refine x_aload_n C dX5_readsSigns_62 rfl ?_
                refine x_get C dX5_readsSigns_63 kfX5_89 hr.o rfl ?_
                refine x_iload_n C dX5_readsSigns_66 rfl ?_
                refine x_bipush C dX5_readsSigns_67 ⟨by decide, by decide⟩ ?_
                refine x_icmp_ne (tgt := 77) C dX5_readsSigns_69 (by decide) (fun c69 => ?_) (fun c69 => ?_)
                · refine x_iload_n C dX5_readsSigns_77 rfl ?_
                  refine x_bipush C dX5_readsSigns_78 ⟨by decide, by decide⟩ ?_
                  refine x_icmp_ne (tgt := 88) C dX5_readsSigns_80 (by decide) (fun c80 => ?_) (fun c80 => ?_)
                  · refine x_iload_n C dX5_readsSigns_88 rfl ?_
                    refine x_bipush C dX5_readsSigns_89 ⟨by decide, by decide⟩ ?_
                    refine x_isub C dX5_readsSigns_91 (by first | (unfold iR; omega) | exact ⟨by omega, by omega⟩) ?_
                    refine x_iast C dX5_readsSigns_92 hr.a1 (by omega) (by rw [hr.l1]; omega) ?_
                    refine ab_M_M1 hr hf (by rw [List.length_set]; exact hr.l1) (fun w hr hf => ?_)
                    refine x_aload_n C dX5_readsSigns_93 rfl ?_
                    refine x_dup C dX5_readsSigns_94 rfl ?_
                    refine x_get C dX5_readsSigns_95 kfX5_89 hr.o rfl ?_
                    refine x_iconst C dX5_readsSigns_98 ⟨by decide, by decide⟩ ?_
                    refine x_iadd C dX5_readsSigns_99 (by first | (unfold iR; omega) | exact ⟨by omega, by omega⟩) ?_
                    refine x_put C dX5_readsSigns_100 kfX5_89 kw_5_0 rfl rfl hr.o (Nat.le_of_ble_eq_true rfl) ?_
                    refine ab_M_mn hr hf (fun w hr hf => ?_)
                    refine x_aload_n C dX5_readsSigns_103 rfl ?_
                    refine x_dup C dX5_readsSigns_104 rfl ?_
                    refine x_get C dX5_readsSigns_105 kfX5_264 hr.o rfl ?_
                    refine x_iconst C dX5_readsSigns_108 ⟨by decide, by decide⟩ ?_
                    refine x_iadd C dX5_readsSigns_109 (by first | (unfold iR; omega) | exact ⟨by omega, by omega⟩) ?_
                    refine x_put C dX5_readsSigns_110 kfX5_264 kw_5_38 rfl rfl hr.o (Nat.le_of_ble_eq_true rfl) ?_
                    refine ab_M_ra hr hf (fun w hr hf => ?_)
                    refine x_goto (tgt := 0) C dX5_readsSigns_113 (by decide) ?_
                    have hsv : sgnF c = c - 97 := by unfold sgnF; (repeat' split) <;> omega
                    rw [set_mid sg x9 _ j1 (by omega)] at hr
                    rw [show (sg.length : Int) + 1 = ((sg ++ [sgnF c]).length : Nat) by simp, show sg ++ (c - 97) :: j1 = (sg ++ [sgnF c]) ++ j1 by rw [hsv]; simp] at hr
                    refine ih (sg ++ [sgnF c]) j1 (ra + 1) _ _ w hr hf hT.s (by simp; omega) (fun z w9 G ra9 h6 h7 h8 => hq z w9 G ra9 h6 h7 ?_)
                    rw [sgnR, if_neg (by omega), if_neg (by omega)]
                    exact h8
                  · refine x_bipush C dX5_readsSigns_83 ⟨by decide, by decide⟩ ?_
                    refine x_goto (tgt := 92) C dX5_readsSigns_85 (by decide) ?_
                    refine x_iast C dX5_readsSigns_92 hr.a1 (by omega) (by rw [hr.l1]; omega) ?_
                    refine ab_M_M1 hr hf (by rw [List.length_set]; exact hr.l1) (fun w hr hf => ?_)
                    refine x_aload_n C dX5_readsSigns_93 rfl ?_
                    refine x_dup C dX5_readsSigns_94 rfl ?_
                    refine x_get C dX5_readsSigns_95 kfX5_89 hr.o rfl ?_
                    refine x_iconst C dX5_readsSigns_98 ⟨by decide, by decide⟩ ?_
                    refine x_iadd C dX5_readsSigns_99 (by first | (unfold iR; omega) | exact ⟨by omega, by omega⟩) ?_
                    refine x_put C dX5_readsSigns_100 kfX5_89 kw_5_0 rfl rfl hr.o (Nat.le_of_ble_eq_true rfl) ?_
                    refine ab_M_mn hr hf (fun w hr hf => ?_)
                    refine x_aload_n C dX5_readsSigns_103 rfl ?_
                    refine x_dup C dX5_readsSigns_104 rfl ?_
                    refine x_get C dX5_readsSigns_105 kfX5_264 hr.o rfl ?_
                    refine x_iconst C dX5_readsSigns_108 ⟨by decide, by decide⟩ ?_
                    refine x_iadd C dX5_readsSigns_109 (by first | (unfold iR; omega) | exact ⟨by omega, by omega⟩) ?_
                    refine x_put C dX5_readsSigns_110 kfX5_264 kw_5_38 rfl rfl hr.o (Nat.le_of_ble_eq_true rfl) ?_
                    refine ab_M_ra hr hf (fun w hr hf => ?_)
                    refine x_goto (tgt := 0) C dX5_readsSigns_113 (by decide) ?_
                    have hsv : sgnF c = 27 := by unfold sgnF; (repeat' split) <;> omega
                    rw [set_mid sg x9 _ j1 (by omega)] at hr
                    rw [show (sg.length : Int) + 1 = ((sg ++ [sgnF c]).length : Nat) by simp, show sg ++ (27) :: j1 = (sg ++ [sgnF c]) ++ j1 by rw [hsv]; simp] at hr
                    refine ih (sg ++ [sgnF c]) j1 (ra + 1) _ _ w hr hf hT.s (by simp; omega) (fun z w9 G ra9 h6 h7 h8 => hq z w9 G ra9 h6 h7 ?_)
                    rw [sgnR, if_neg (by omega), if_neg (by omega)]
                    exact h8
                · refine x_bipush C dX5_readsSigns_72 ⟨by decide, by decide⟩ ?_
                  refine x_goto (tgt := 92) C dX5_readsSigns_74 (by decide) ?_
                  refine x_iast C dX5_readsSigns_92 hr.a1 (by omega) (by rw [hr.l1]; omega) ?_
                  refine ab_M_M1 hr hf (by rw [List.length_set]; exact hr.l1) (fun w hr hf => ?_)
                  refine x_aload_n C dX5_readsSigns_93 rfl ?_
                  refine x_dup C dX5_readsSigns_94 rfl ?_
                  refine x_get C dX5_readsSigns_95 kfX5_89 hr.o rfl ?_
                  refine x_iconst C dX5_readsSigns_98 ⟨by decide, by decide⟩ ?_
                  refine x_iadd C dX5_readsSigns_99 (by first | (unfold iR; omega) | exact ⟨by omega, by omega⟩) ?_
                  refine x_put C dX5_readsSigns_100 kfX5_89 kw_5_0 rfl rfl hr.o (Nat.le_of_ble_eq_true rfl) ?_
                  refine ab_M_mn hr hf (fun w hr hf => ?_)
                  refine x_aload_n C dX5_readsSigns_103 rfl ?_
                  refine x_dup C dX5_readsSigns_104 rfl ?_
                  refine x_get C dX5_readsSigns_105 kfX5_264 hr.o rfl ?_
                  refine x_iconst C dX5_readsSigns_108 ⟨by decide, by decide⟩ ?_
                  refine x_iadd C dX5_readsSigns_109 (by first | (unfold iR; omega) | exact ⟨by omega, by omega⟩) ?_
                  refine x_put C dX5_readsSigns_110 kfX5_264 kw_5_38 rfl rfl hr.o (Nat.le_of_ble_eq_true rfl) ?_
                  refine ab_M_ra hr hf (fun w hr hf => ?_)
                  refine x_goto (tgt := 0) C dX5_readsSigns_113 (by decide) ?_
                  have hsv : sgnF c = 26 := by unfold sgnF; (repeat' split) <;> omega
                  rw [set_mid sg x9 _ j1 (by omega)] at hr
                  rw [show (sg.length : Int) + 1 = ((sg ++ [sgnF c]).length : Nat) by simp, show sg ++ (26) :: j1 = (sg ++ [sgnF c]) ++ j1 by rw [hsv]; simp] at hr
                  refine ih (sg ++ [sgnF c]) j1 (ra + 1) _ _ w hr hf hT.s (by simp; omega) (fun z w9 G ra9 h6 h7 h8 => hq z w9 G ra9 h6 h7 ?_)
                  rw [sgnR, if_neg (by omega), if_neg (by omega)]
                  exact h8
              · refine x_iconst C dX5_readsSigns_56 ⟨by decide, by decide⟩ ?_
                refine x_zret C hQ dX5_readsSigns_57 (by first | exact Or.inl rfl | exact Or.inr rfl | omega) (Nat.le_refl _) (Nat.le_refl _) ?_
                exact ⟨rfl, _, rfl, hq _ w ((sg, F.1.2), F.2) _ ⟨j1, j2, j3, j4, j5, j6, pi, lr, lc, M7, M8, M9, M10, M11, M12, M13, hr⟩ hf (Or.inl ⟨by rw [sgnR, if_neg (by omega), if_pos (Or.inr (by omega))]; rfl, rfl⟩)⟩

set_option maxHeartbeats 1000000 in
set_option maxRecDepth 100000 in
theorem c_X5_readsSigns (l : Launch) {w : mW} {h : Nat} {F : mF} {um sm wp wr ac  ra rn : Int} {M14 M15 M16 M17 M18 M19 M20 M21  M23 : List Int} {tx jt R : List Int} (hN : isN w h F um sm wp wr ac tx.length ra rn M14 M15 M16 M17 M18 M19 M20 M21 (tx ++ jt) M23) (hW : wfF F) (hT : atT tx ra R) (hch : ∀ c ∈ tx, 32 ≤ c ∧ c ≤ 126) : Ci l yX5_readsSigns cX5_readsSigns 3 (some .boolean) 1 [vr h] w (fun z w' => ∃ (G : mF) (ra rn : Int), isN w' h G um sm wp wr ac tx.length ra rn M14 M15 M16 M17 M18 M19 M20 M21 (tx ++ jt) M23 ∧ frR w w' h (h + 23) ∧ rdO tx (rSg F R) z ra G) := by
  refine Ci.of (ml := [some (vr h), none, none]) kyX5_readsSigns rfl (Nat.le_of_ble_eq_true rfl) rfl ?_
  intro t n C hQ
  obtain ⟨j1, j2, j3, j4, j5, j6, pi, lr, lc, M7, M8, M9, M10, M11, M12, M13, hr⟩ := hN
  exact lp_X5_readsSigns hch C hQ R F.1.1 j1 ra none none w hr frR.rf hT hW.1 (fun z w9 G ra9 h6 h7 h8 => ⟨G, ra9, rn, h6, h7, h8⟩)

set_option maxHeartbeats 1000000 in
set_option maxRecDepth 100000 in
theorem c_X5_readsItem (l : Launch) {w : mW} {h : Nat} {F : mF} {um sm wp wr ac  ra rn : Int} {M14 M15 M16 M17 M18 M19 M20 M21  M23 : List Int} {tx jt R : List Int} {c : Int} (hN : isN w h F um sm wp wr ac tx.length ra rn M14 M15 M16 M17 M18 M19 M20 M21 (tx ++ jt) M23) (hW : wfF F) (hT : atT tx ra (c :: R)) (hch : ∀ c ∈ tx, 32 ≤ c ∧ c ≤ 126) (b : Int) (hb : b = 0 ∨ b = 1) : Ci l yX5_readsItem cX5_readsItem 3 (some .boolean) 4 [vr h, vi b] w (fun z w' => ∃ (G : mF) (ra rn : Int), isN w' h G um sm wp wr ac tx.length ra rn M14 M15 M16 M17 M18 M19 M20 M21 (tx ++ jt) M23 ∧ frR w w' h (h + 23) ∧ rdO tx (rItem (decide (b = 1)) (c :: R) F) z ra G) := by
  refine Ci.of (ml := [some (vr h), some (vi b), none]) kyX5_readsItem rfl (Nat.le_of_ble_eq_true rfl) rfl ?_
  intro t n C hQ
  have hN2 := hN
  have hf : frR w w h (h + 23) := frR.rf
  obtain ⟨j1, j2, j3, j4, j5, j6, pi, lr, lc, M7, M8, M9, M10, M11, M12, M13, hr⟩ := hN
  obtain ⟨f1, f2, f3, f4, f5, f6, f7, f8, f9, f10, f11, f12⟩ := id hW
  have hw : ∀ f ∈ F.1.2.1, (0 ≤ f.1 ∧ f.1 ≤ 100) ∧ (0 ≤ f.2.1 ∧ f.2.1 ≤ 100) ∧ (f.2.2 = 0 ∨ f.2.2 = 1) := fun f hf9 => by have := f4 f hf9; omega
  have l22 := hr.l22
  simp only [List.length_append] at l22
  have hh := hT.h jt
  have hgl := hh.2.2.2.2
  simp only [List.length_cons] at hgl
  refine x_aload_n C dX5_readsItem_0 rfl ?_
  refine y_p0 C dX5_readsItem_1 kyX5_here knX5_here kmX5_267 hr.o (c_X5_here l hr hT) (by decide) (Nat.zero_le _) (Nat.zero_le _) (Nat.le_of_ble_eq_true rfl) (fun z1 q1 => ?_)
  have q1 : c = z1 := q1.symm
  subst q1
  refine s_ist3_2 C dX5_readsItem_4 rfl ?_
  refine x_aload_n C dX5_readsItem_5 rfl ?_
  refine x_dup C dX5_readsItem_6 rfl ?_
  refine x_get C dX5_readsItem_7 kfX5_264 hr.o rfl ?_
  refine x_iconst C dX5_readsItem_10 ⟨by decide, by decide⟩ ?_
  refine x_iadd C dX5_readsItem_11 (by first | (unfold iR; omega) | exact ⟨by omega, by omega⟩) ?_
  refine x_put C dX5_readsItem_12 kfX5_264 kw_5_38 rfl rfl hr.o (Nat.le_of_ble_eq_true rfl) ?_
  refine ab_M_ra hr hf (fun w hr hf => ?_)
  refine x_iload_n C dX5_readsItem_15 rfl ?_
  refine sw_X5_readsItem_16 C (fun c16 => ?_) (fun c16 => ?_) (fun c16 => ?_) (fun c16 => ?_) (fun c16 => ?_)
  · refine x_aload_n C dX5_readsItem_77 rfl ?_
    refine y_i0 C dX5_readsItem_78 kyX5_readsFold knX5_readsFold kmX5_283 hr.o (c_X5_readsFold l (F := F) ⟨j1, j2, j3, j4, j5, j6, pi, lr, lc, M7, M8, M9, M10, M11, M12, M13, hr⟩ hW hT.s hch) (by decide) (Nat.zero_le _) (Nat.zero_le _) (Nat.le_of_ble_eq_true rfl) (fun z78 w78 q78 => ?_)
    obtain ⟨G, ra9, rn9, hN9, hf9, q78⟩ := q78
    have hq9 := q78.z
    obtain ⟨j1, j2, j3, j4, j5, j6, pi, lr, lc, M7, M8, M9, M10, M11, M12, M13, hr⟩ := id hN9
    refine x_zret C hQ dX5_readsItem_81 (by first | exact Or.inl rfl | exact Or.inr rfl | omega) (Nat.le_refl _) (Nat.le_refl _) ?_
    exact ⟨rfl, _, rfl, G, ra9, rn9, hN9, hf.tr hf9, by rw [show rItem (decide (b = 1)) (c :: R) F = _ from by rw [rItem, if_neg (by omega), if_pos (by omega)]]; exact q78⟩
  · refine x_aload_n C dX5_readsItem_82 rfl ?_
    refine y_i0 C dX5_readsItem_83 kyX5_readsHint knX5_readsHint kmX5_286 hr.o (c_X5_readsHint l (F := F) ⟨j1, j2, j3, j4, j5, j6, pi, lr, lc, M7, M8, M9, M10, M11, M12, M13, hr⟩ hW hT.s hch) (by decide) (Nat.zero_le _) (Nat.zero_le _) (Nat.le_of_ble_eq_true rfl) (fun z83 w83 q83 => ?_)
    obtain ⟨G, ra9, rn9, hN9, hf9, q83⟩ := q83
    have hq9 := q83.z
    obtain ⟨j1, j2, j3, j4, j5, j6, pi, lr, lc, M7, M8, M9, M10, M11, M12, M13, hr⟩ := id hN9
    refine x_zret C hQ dX5_readsItem_86 (by first | exact Or.inl rfl | exact Or.inr rfl | omega) (Nat.le_refl _) (Nat.le_refl _) ?_
    exact ⟨rfl, _, rfl, G, ra9, rn9, hN9, hf.tr hf9, by rw [show rItem (decide (b = 1)) (c :: R) F = _ from by rw [rItem, if_neg (by omega), if_neg (by omega), if_pos (by omega)]]; exact q83⟩
  · refine x_iload_n C dX5_readsItem_60 rfl ?_
    refine x_if_eq (tgt := 75) C dX5_readsItem_61 (by decide) (fun c61 => ?_) (fun c61 => ?_)
    · refine x_iconst C dX5_readsItem_75 ⟨by decide, by decide⟩ ?_
      refine x_zret C hQ dX5_readsItem_76 (by first | exact Or.inl rfl | exact Or.inr rfl | omega) (Nat.le_refl _) (Nat.le_refl _) ?_
      exact ⟨rfl, _, rfl, F, _, _, ⟨j1, j2, j3, j4, j5, j6, pi, lr, lc, M7, M8, M9, M10, M11, M12, M13, hr⟩, hf, Or.inl ⟨by rw [rItem, if_pos (by omega), if_neg (fun h9 => by have h8 := of_decide_eq_true h9; omega)], rfl⟩⟩
    · refine x_aload_n C dX5_readsItem_64 rfl ?_
      refine y_i0 C dX5_readsItem_65 kyX5_readsSigns knX5_readsSigns kmX5_280 hr.o (c_X5_readsSigns l (F := F) ⟨j1, j2, j3, j4, j5, j6, pi, lr, lc, M7, M8, M9, M10, M11, M12, M13, hr⟩ hW hT.s hch) (by decide) (Nat.zero_le _) (Nat.zero_le _) (Nat.le_of_ble_eq_true rfl) (fun z65 w65 q65 => ?_)
      obtain ⟨G, ra9, rn9, hN9, hf9, q65⟩ := q65
      have hq9 := q65.z
      obtain ⟨j1, j2, j3, j4, j5, j6, pi, lr, lc, M7, M8, M9, M10, M11, M12, M13, hr⟩ := id hN9
      refine x_if_eq (tgt := 75) C dX5_readsItem_68 (by decide) (fun c68 => ?_) (fun c68 => ?_)
      · refine x_iconst C dX5_readsItem_75 ⟨by decide, by decide⟩ ?_
        refine x_zret C hQ dX5_readsItem_76 (by first | exact Or.inl rfl | exact Or.inr rfl | omega) (Nat.le_refl _) (Nat.le_refl _) ?_
        exact ⟨rfl, _, rfl, G, ra9, rn9, hN9, hf.tr hf9, by rw [show rItem (decide (b = 1)) (c :: R) F = rSg F R from by rw [rItem, if_pos (by omega), if_pos (decide_eq_true (by omega))]]; exact (show z65 = 0 by omega) ▸ q65⟩
      · refine x_iconst C dX5_readsItem_71 ⟨by decide, by decide⟩ ?_
        refine x_goto (tgt := 76) C dX5_readsItem_72 (by decide) ?_
        refine x_zret C hQ dX5_readsItem_76 (by first | exact Or.inl rfl | exact Or.inr rfl | omega) (Nat.le_refl _) (Nat.le_refl _) ?_
        exact ⟨rfl, _, rfl, G, ra9, rn9, hN9, hf.tr hf9, by rw [show rItem (decide (b = 1)) (c :: R) F = rSg F R from by rw [rItem, if_pos (by omega), if_pos (decide_eq_true (by omega))]]; exact (show z65 = 1 by omega) ▸ q65⟩
  · refine x_aload_n C dX5_readsItem_87 rfl ?_
    refine y_i0 C dX5_readsItem_88 kyX5_readsWide knX5_readsWide kmX5_289 hr.o (c_X5_readsWide l (F := F) ⟨j1, j2, j3, j4, j5, j6, pi, lr, lc, M7, M8, M9, M10, M11, M12, M13, hr⟩ hW hT.s hch) (by decide) (Nat.zero_le _) (Nat.zero_le _) (Nat.le_of_ble_eq_true rfl) (fun z88 w88 q88 => ?_)
    obtain ⟨G, ra9, rn9, hN9, hf9, q88⟩ := q88
    have hq9 := q88.z
    obtain ⟨j1, j2, j3, j4, j5, j6, pi, lr, lc, M7, M8, M9, M10, M11, M12, M13, hr⟩ := id hN9
    refine x_zret C hQ dX5_readsItem_91 (by first | exact Or.inl rfl | exact Or.inr rfl | omega) (Nat.le_refl _) (Nat.le_refl _) ?_
    exact ⟨rfl, _, rfl, G, ra9, rn9, hN9, hf.tr hf9, by rw [show rItem (decide (b = 1)) (c :: R) F = _ from by rw [rItem, if_neg (by omega), if_neg (by omega), if_neg (by omega), if_pos (by omega)]]; exact q88⟩
  · refine x_iload_n C dX5_readsItem_92 rfl ?_
    refine x_bipush C dX5_readsItem_93 ⟨by decide, by decide⟩ ?_
    refine x_icmp_ne (tgt := 109) C dX5_readsItem_95 (by decide) (fun c95 => ?_) (fun c95 => ?_)
    · refine x_iconst C dX5_readsItem_109 ⟨by decide, by decide⟩ ?_
      refine x_zret C hQ dX5_readsItem_110 (by first | exact Or.inl rfl | exact Or.inr rfl | omega) (Nat.le_refl _) (Nat.le_refl _) ?_
      exact ⟨rfl, _, rfl, F, _, _, ⟨j1, j2, j3, j4, j5, j6, pi, lr, lc, M7, M8, M9, M10, M11, M12, M13, hr⟩, hf, Or.inl ⟨by rw [rItem, if_neg (by omega), if_neg (by omega), if_neg (by omega), if_neg (by omega), if_neg (by omega)], rfl⟩⟩
    · refine x_aload_n C dX5_readsItem_98 rfl ?_
      refine y_i0 C dX5_readsItem_99 kyX5_readsTabs knX5_readsTabs kmX5_292 hr.o (c_X5_readsTabs l (F := F) ⟨j1, j2, j3, j4, j5, j6, pi, lr, lc, M7, M8, M9, M10, M11, M12, M13, hr⟩ hW hT.s hch) (by decide) (Nat.zero_le _) (Nat.zero_le _) (Nat.le_of_ble_eq_true rfl) (fun z99 w99 q99 => ?_)
      obtain ⟨G, ra9, rn9, hN9, hf9, q99⟩ := q99
      have hq9 := q99.z
      obtain ⟨j1, j2, j3, j4, j5, j6, pi, lr, lc, M7, M8, M9, M10, M11, M12, M13, hr⟩ := id hN9
      refine x_if_eq (tgt := 109) C dX5_readsItem_102 (by decide) (fun c102 => ?_) (fun c102 => ?_)
      · refine x_iconst C dX5_readsItem_109 ⟨by decide, by decide⟩ ?_
        refine x_zret C hQ dX5_readsItem_110 (by first | exact Or.inl rfl | exact Or.inr rfl | omega) (Nat.le_refl _) (Nat.le_refl _) ?_
        exact ⟨rfl, _, rfl, G, ra9, rn9, hN9, hf.tr hf9, by rw [show rItem (decide (b = 1)) (c :: R) F = rTb F R from by rw [rItem, if_neg (by omega), if_neg (by omega), if_neg (by omega), if_neg (by omega), if_pos (by omega)]]; exact (show z99 = 0 by omega) ▸ q99⟩
      · refine x_iconst C dX5_readsItem_105 ⟨by decide, by decide⟩ ?_
        refine x_goto (tgt := 110) C dX5_readsItem_106 (by decide) ?_
        refine x_zret C hQ dX5_readsItem_110 (by first | exact Or.inl rfl | exact Or.inr rfl | omega) (Nat.le_refl _) (Nat.le_refl _) ?_
        exact ⟨rfl, _, rfl, G, ra9, rn9, hN9, hf.tr hf9, by rw [show rItem (decide (b = 1)) (c :: R) F = rTb F R from by rw [rItem, if_neg (by omega), if_neg (by omega), if_neg (by omega), if_neg (by omega), if_pos (by omega)]]; exact (show z99 = 1 by omega) ▸ q99⟩

theorem rd_no {m : Nat} {R : List Int} {F : mF} {k : Int} {b : Bool} (hR : R ≠ []) (hb : b = decide (k = 0)) (h : rItem b R F = none) : (rdT (m + 1) k R F).1 = k := by
  subst hb
  rw [rdT, if_neg hR]
  cases hc : cut R with
  | none => rfl
  | some q =>
    rw [item_some hc] at h
    simp only
    cases hi : itemF (decide (k = 0)) q.1 F with
    | none => rfl
    | some G => rw [hi] at h; cases h
theorem rd_go {m : Nat} {R R' : List Int} {F G : mF} {k : Int} {b : Bool} (hR : R ≠ []) (hb : b = decide (k = 0)) (h : rItem b R F = some (G, R')) (hW : wfF F) (hfs : k = 0 → F.1.2.1 = [] ∧ F.1.2.2 = []) : rdT (m + 1) k R F = rdT m (k + (R.length : Int) - (R'.length : Int)) R' G ∧ R'.length + 1 ≤ R.length ∧ wfF G := by
  subst hb
  rw [rdT, if_neg hR]
  cases hc : cut R with
  | none => rw [item_none hc] at h; cases h
  | some q =>
    rw [item_some hc] at h
    simp only
    cases hi : itemF (decide (k = 0)) q.1 F with
    | none => rw [hi] at h; cases h
    | some G' =>
      rw [hi] at h
      have h9 := Option.some.inj h
      simp only [Prod.mk.injEq] at h9
      obtain ⟨rfl, rfl⟩ := h9
      have hl := congrArg List.length (cut_split R q hc).1
      simp only [List.length_append, List.length_cons] at hl
      refine ⟨?_, by omega, wf_item hW (fun h8 => hfs (of_decide_eq_true h8)) hi⟩
      simp only
      rw [show k + (q.1.length : Int) + 1 = k + (R.length : Int) - (q.2.length : Int) by omega]

set_option maxHeartbeats 1000000 in
set_option maxRecDepth 100000 in
theorem lp_X5_readsAll {t : TX} {l : Launch} {n0 : Nat} {w0 : mW} {h : Nat} {um sm wp wr ac  : Int} {M14 M15 M16 M17 M18 M19 M20 M21  M23 : List Int} {tx jt : List Int} (hch : ∀ c ∈ tx, 32 ≤ c ∧ c ≤ 126) (C : Cb t l cX5_readsAll RX5 2 (some .int) 5 0 0) {Q : Int → mW → Prop} (hQ : RQ t 0 0 (fun r n' w' => n' = n0 ∧ ∃ z : Int, r = some (vi z) ∧ Q z w')) : ∀ (m : Nat) (R : List Int) (F : mF) (k ra rn : Int) (x1 : Option mV) (w : mW), R.length < m → k = ra → isN w h F um sm wp wr ac tx.length ra rn M14 M15 M16 M17 M18 M19 M20 M21 (tx ++ jt) M23 → wfF F → (k = 0 → F.1.2.1 = [] ∧ F.1.2.2 = []) → atT tx ra R → frR w0 w h (h + 23) → (∀ (z : Int) (G : mF) (ra rn : Int) (w : mW), z = (rdT m k R F).1 → (z = -4 → G = (rdT m k R F).2) → isN w h G um sm wp wr ac tx.length ra rn M14 M15 M16 M17 M18 M19 M20 M21 (tx ++ jt) M23 → frR w0 w h (h + 23) → Q z w) → J t 0 0 41 [some (vr h), x1] [] n0 w := by
  intro m
  induction m with
  | zero => intro R F k ra rn x1 w hm; omega
  | succ m ih =>
    intro R F k ra rn x1 w hm hk hN hW hfs hT hf hq
    subst hk
    have hN2 := hN
    obtain ⟨j1, j2, j3, j4, j5, j6, pi, lr, lc, M7, M8, M9, M10, M11, M12, M13, hr⟩ := hN
    have l22 := hr.l22
    simp only [List.length_append] at l22
    have hh := hT.h jt
    cases R with
    | nil =>
      have hgl := hh.2.2.2.2
      simp only [List.length_nil] at hgl
      refine x_aload_n C dX5_readsAll_41 rfl ?_
      refine x_get C dX5_readsAll_42 kfX5_264 hr.o rfl ?_
      refine x_aload_n C dX5_readsAll_45 rfl ?_
      refine x_get C dX5_readsAll_46 kfX5_261 hr.o rfl ?_
      refine x_icmp_ge (tgt := 78) C dX5_readsAll_49 (by decide) (fun c49 => ?_) (fun c49 => absurd c49 (by omega))
      refine x_bipush C dX5_readsAll_78 ⟨by decide, by decide⟩ ?_
      refine x_iret C hQ dX5_readsAll_80 (Nat.le_refl _) (Nat.le_refl _) ?_
      exact ⟨rfl, _, rfl, hq _ F _ _ _ (by rw [rdT, if_pos rfl]) (fun _ => by rw [rdT, if_pos rfl]) hN2 hf⟩
    | cons c R =>
      have hgl := hh.2.2.2.2
      simp only [List.length_cons] at hgl hm
      refine x_aload_n C dX5_readsAll_41 rfl ?_
      refine x_get C dX5_readsAll_42 kfX5_264 hr.o rfl ?_
      refine x_aload_n C dX5_readsAll_45 rfl ?_
      refine x_get C dX5_readsAll_46 kfX5_261 hr.o rfl ?_
      refine x_icmp_ge (tgt := 78) C dX5_readsAll_49 (by decide) (fun c49 => absurd c49 (by omega)) (fun c49 => ?_)
      refine x_aload_n C dX5_readsAll_52 rfl ?_
      refine x_get C dX5_readsAll_53 kfX5_264 hr.o rfl ?_
      refine s_ist2_1 C dX5_readsAll_56 rfl ?_
      refine x_aload_n C dX5_readsAll_57 rfl ?_
      refine x_iload_n C dX5_readsAll_58 rfl ?_
      refine x_if_ne (tgt := 66) C dX5_readsAll_59 (by decide) (fun c59 => ?_) (fun c59 => ?_)
      · refine x_iconst C dX5_readsAll_66 ⟨by decide, by decide⟩ ?_
        refine y_i1 C dX5_readsAll_67 kyX5_readsItem knX5_readsItem kmX5_295 hr.o (c_X5_readsItem l hN2 hW hT hch _ (by first | exact Or.inl rfl | exact Or.inr rfl)) (by decide) (Nat.zero_le _) (Nat.zero_le _) (Nat.le_of_ble_eq_true rfl) (fun z67 w67 q67 => ?_)
        obtain ⟨G, ra9, rn9, hN9, hf9, q67⟩ := q67
        have hf := hf.tr hf9
        refine x_if_ne (tgt := 75) C dX5_readsAll_70 (by decide) (fun c70 => ?_) (fun c70 => ?_)
        · refine x_goto (tgt := 41) C dX5_readsAll_75 (by decide) ?_
          obtain ⟨R', h67, hT'⟩ := q67.yes (by omega)
          obtain ⟨e1, e2, e3⟩ := rd_go (m := m) (k := k) (by simp) (decide_eq_decide.mpr ⟨fun _ => by omega, fun _ => by omega⟩) h67 hW hfs
          have hh' := hT'.h jt
          refine ih R' G _ ra9 rn9 _ _ (by simp only [List.length_cons] at e2; omega) rfl hN9 e3 (fun h9 => ?_) hT' hf (fun z G9 ra8 rn8 w9 g1 g2 g3 g4 => hq z G9 ra8 rn8 w9 ?_ ?_ g3 g4)
          · simp only [List.length_cons] at e2; omega
          · rw [e1, show k + ((c :: R).length : Int) - (R'.length : Int) = ra9 by simp only [List.length_cons]; omega]; exact g1
          · rw [e1, show k + ((c :: R).length : Int) - (R'.length : Int) = ra9 by simp only [List.length_cons]; omega]; exact g2
        · refine x_iload_n C dX5_readsAll_73 rfl ?_
          refine x_iret C hQ dX5_readsAll_74 (Nat.le_refl _) (Nat.le_refl _) ?_
          have h67 := q67.no (by omega)
          exact ⟨rfl, _, rfl, hq _ G _ _ _ (rd_no (m := m) (by simp) (decide_eq_decide.mpr ⟨fun _ => by omega, fun _ => by omega⟩) h67).symm (fun h9 => absurd h9 (by omega)) hN9 hf⟩
      · refine x_iconst C dX5_readsAll_62 ⟨by decide, by decide⟩ ?_
        refine x_goto (tgt := 67) C dX5_readsAll_63 (by decide) ?_
        refine y_i1 C dX5_readsAll_67 kyX5_readsItem knX5_readsItem kmX5_295 hr.o (c_X5_readsItem l hN2 hW hT hch _ (by first | exact Or.inl rfl | exact Or.inr rfl)) (by decide) (Nat.zero_le _) (Nat.zero_le _) (Nat.le_of_ble_eq_true rfl) (fun z67 w67 q67 => ?_)
        obtain ⟨G, ra9, rn9, hN9, hf9, q67⟩ := q67
        have hf := hf.tr hf9
        refine x_if_ne (tgt := 75) C dX5_readsAll_70 (by decide) (fun c70 => ?_) (fun c70 => ?_)
        · refine x_goto (tgt := 41) C dX5_readsAll_75 (by decide) ?_
          obtain ⟨R', h67, hT'⟩ := q67.yes (by omega)
          obtain ⟨e1, e2, e3⟩ := rd_go (m := m) (k := k) (by simp) (decide_eq_decide.mpr ⟨fun _ => by omega, fun _ => by omega⟩) h67 hW hfs
          have hh' := hT'.h jt
          refine ih R' G _ ra9 rn9 _ _ (by simp only [List.length_cons] at e2; omega) rfl hN9 e3 (fun h9 => ?_) hT' hf (fun z G9 ra8 rn8 w9 g1 g2 g3 g4 => hq z G9 ra8 rn8 w9 ?_ ?_ g3 g4)
          · simp only [List.length_cons] at e2; omega
          · rw [e1, show k + ((c :: R).length : Int) - (R'.length : Int) = ra9 by simp only [List.length_cons]; omega]; exact g1
          · rw [e1, show k + ((c :: R).length : Int) - (R'.length : Int) = ra9 by simp only [List.length_cons]; omega]; exact g2
        · refine x_iload_n C dX5_readsAll_73 rfl ?_
          refine x_iret C hQ dX5_readsAll_74 (Nat.le_refl _) (Nat.le_refl _) ?_
          have h67 := q67.no (by omega)
          exact ⟨rfl, _, rfl, hq _ G _ _ _ (rd_no (m := m) (by simp) (decide_eq_decide.mpr ⟨fun _ => by omega, fun _ => by omega⟩) h67).symm (fun h9 => absurd h9 (by omega)) hN9 hf⟩

set_option maxHeartbeats 1000000 in
set_option maxRecDepth 100000 in
theorem c_X5_readsAll (l : Launch) {w : mW} {h : Nat} {F : mF} {um sm wp wr ac  ra rn : Int} {M14 M15 M16 M17 M18 M19 M20 M21  M23 : List Int} {tx jt : List Int} (hN : isN w h F um sm wp wr ac tx.length ra rn M14 M15 M16 M17 M18 M19 M20 M21 (tx ++ jt) M23) (hch : ∀ c ∈ tx, 32 ≤ c ∧ c ≤ 126) : Ci l yX5_readsAll cX5_readsAll 2 (some .int) 5 [vr h] w (fun z w' => ∃ (G : mF) (ra rn : Int), z = (rdT (tx.length + 1) 0 tx F00).1 ∧ (z = -4 → G = (rdT (tx.length + 1) 0 tx F00).2) ∧ isN w' h G um sm wp wr ac tx.length ra rn M14 M15 M16 M17 M18 M19 M20 M21 (tx ++ jt) M23 ∧ frR w w' h (h + 23)) := by
  refine Ci.of (ml := [some (vr h), none]) kyX5_readsAll rfl (Nat.le_of_ble_eq_true rfl) rfl ?_
  intro t n C hQ
  have hf : frR w w h (h + 23) := frR.rf
  obtain ⟨j1, j2, j3, j4, j5, j6, pi, lr, lc, M7, M8, M9, M10, M11, M12, M13, hr⟩ := hN
  refine x_aload_n C dX5_readsAll_0 rfl ?_
  refine x_iconst C dX5_readsAll_1 ⟨by decide, by decide⟩ ?_
  refine x_put C dX5_readsAll_2 kfX5_264 kw_5_38 rfl rfl hr.o (Nat.le_of_ble_eq_true rfl) ?_
  refine ab_M_ra hr hf (fun w hr hf => ?_)
  refine x_aload_n C dX5_readsAll_5 rfl ?_
  refine x_iconst C dX5_readsAll_6 ⟨by decide, by decide⟩ ?_
  refine x_put C dX5_readsAll_7 kfX5_89 kw_5_0 rfl rfl hr.o (Nat.le_of_ble_eq_true rfl) ?_
  refine ab_M_mn hr hf (fun w hr hf => ?_)
  refine x_aload_n C dX5_readsAll_10 rfl ?_
  refine x_iconst C dX5_readsAll_11 ⟨by decide, by decide⟩ ?_
  refine x_put C dX5_readsAll_12 kfX5_107 kw_5_2 rfl rfl hr.o (Nat.le_of_ble_eq_true rfl) ?_
  refine ab_M_fc hr hf (fun w hr hf => ?_)
  refine x_aload_n C dX5_readsAll_15 rfl ?_
  refine x_iconst C dX5_readsAll_16 ⟨by decide, by decide⟩ ?_
  refine x_put C dX5_readsAll_17 kfX5_110 kw_5_6 rfl rfl hr.o (Nat.le_of_ble_eq_true rfl) ?_
  refine ab_M_hc hr hf (fun w hr hf => ?_)
  refine x_aload_n C dX5_readsAll_20 rfl ?_
  refine x_iconst C dX5_readsAll_21 ⟨by decide, by decide⟩ ?_
  refine x_put C dX5_readsAll_22 kfX5_28 kw_5_9 rfl rfl hr.o (Nat.le_of_ble_eq_true rfl) ?_
  refine ab_M_mo hr hf (fun w hr hf => ?_)
  refine x_aload_n C dX5_readsAll_25 rfl ?_
  refine x_bipush C dX5_readsAll_26 ⟨by decide, by decide⟩ ?_
  refine x_put C dX5_readsAll_28 kfX5_32 kw_5_10 rfl rfl hr.o (Nat.le_of_ble_eq_true rfl) ?_
  refine ab_M_wi hr hf (fun w hr hf => ?_)
  refine x_aload_n C dX5_readsAll_31 rfl ?_
  refine x_iconst C dX5_readsAll_32 ⟨by decide, by decide⟩ ?_
  refine x_put C dX5_readsAll_33 kfX5_100 kw_5_11 rfl rfl hr.o (Nat.le_of_ble_eq_true rfl) ?_
  refine ab_M_nd hr hf (fun w hr hf => ?_)
  refine x_aload_n C dX5_readsAll_36 rfl ?_
  refine x_iconst C dX5_readsAll_37 ⟨by decide, by decide⟩ ?_
  refine x_put C dX5_readsAll_38 kfX5_35 kw_5_12 rfl rfl hr.o (Nat.le_of_ble_eq_true rfl) ?_
  refine ab_M_tb hr hf (fun w hr hf => ?_)
  exact lp_X5_readsAll hch C hQ (tx.length + 1) tx F00 0 0 rn none w (by omega) rfl ⟨_, _, _, _, _, _, pi, lr, lc, M7, M8, M9, M10, M11, M12, M13, hr⟩ wf_00 (fun _ => ⟨rfl, rfl⟩) ⟨[], rfl, rfl⟩ hf (fun z G ra rn w9 g1 g2 g3 g4 => ⟨G, ra, rn, g1, g2, g3, g4⟩)
