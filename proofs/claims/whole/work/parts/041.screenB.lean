/-! ===== DisplayMap.Screen: flow ===== -/
theorem gd_setS {xs : List Int} {i : Nat} (y : Int) (h : i < xs.length) : (xs.set i y).getD i 0 = y := by simp [List.getD, h]
theorem set_mid2 (P : List Int) (x y z : Int) (R : List Int) {i : Nat} (hi : i = P.length + 1) : (P ++ x :: y :: R).set i z = P ++ x :: z :: R := by
  subst hi
  simp
theorem lastC_app (rw : List (Int × Int)) (q : Int × Int) : lastC (rw ++ [q]) = q.1 := by simp [lastC]

set_option maxHeartbeats 1000000 in
set_option maxRecDepth 100000 in
theorem lp_X1_flow_48 {t : TX} {l : Launch} {n0 : Nat} {w0 : mW} {h u : Nat} {n fc hc mo wi nd tb : Int} {A1 A2 A3 A4 A5 A6 : List Int} (hs : rS w0 u n fc hc mo wi nd tb A1 A2 A3 A4 A5 A6) (hd : u + 6 < h ∨ h + 7 < u) (htb : 1 ≤ tb ∧ tb ≤ 8) (C : Cb t l cX1_flow RX1 4 none 3 0 0) {ic rc lc fz i : Int} {B1 B2 B3 B4 B5 B6 B7 : List Int} {w : mW} (hr : rC w h ic rc lc B1 B2 B3 B4 B5 B6 B7) (hf : frR w0 w h (h + 7)) (hi : 0 ≤ i ∧ i < 44) (hrc : 1 ≤ rc ∧ rc ≤ 44) (hlc : 0 ≤ lc ∧ lc ≤ 100000) (hbv : 0 ≤ B5.getD i.toNat 0 ∧ B5.getD i.toNat 0 ≤ 5) (kx1 : B1.getD i.toNat 0 ≠ 27 → ∀ w', rC w' h ic rc (lc + widF tb lc (B1.getD i.toNat 0) (B5.getD i.toNat 0)) B1 B2 (B3.set i.toNat (rc - 1)) (B4.set i.toNat lc) (B5.set i.toNat (widF tb lc (B1.getD i.toNat 0) (B5.getD i.toNat 0))) (B6.set (rc - 1).toNat (lc + widF tb lc (B1.getD i.toNat 0) (B5.getD i.toNat 0))) B7 → frR w0 w' h (h + 7) → J t 0 0 14 [some (vr h), some (vr u), some (vi 1), some (vi (i + 1))] [] n0 w') (kx2 : B1.getD i.toNat 0 = 27 → ∀ w', rC w' h ic (rc + 1) 0 B1 B2 (B3.set i.toNat (rc - 1)) (B4.set i.toNat lc) (B5.set i.toNat (widF tb lc (B1.getD i.toNat 0) (B5.getD i.toNat 0))) ((B6.set (rc - 1).toNat (lc + widF tb lc (B1.getD i.toNat 0) (B5.getD i.toNat 0))).set rc.toNat 0) (B7.set rc.toNat 1) → frR w0 w' h (h + 7) → J t 0 0 14 [some (vr h), some (vr u), some (vi 0), some (vi (i + 1))] [] n0 w') : J t 0 0 48 [some (vr h), some (vr u), some (vi fz), some (vi i)] [] n0 w := by
  have l5 := hr.l5
  have hwf := widF_bd (c := B1.getD i.toNat 0) htb hlc.1 hbv
  generalize hV : widF tb lc (B1.getD i.toNat 0) (B5.getD i.toNat 0) = v at hwf kx1 kx2
  refine x_aload_n C dX1_flow_48 rfl ?_
  refine x_get C dX1_flow_49 kfX1_24 hr.o rfl ?_
  refine x_iload_n C dX1_flow_52 rfl ?_
  refine x_aload_n C dX1_flow_53 rfl ?_
  refine x_aload_n C dX1_flow_54 rfl ?_
  refine x_iload_n C dX1_flow_55 rfl ?_
  refine y_p2 C dX1_flow_56 kyX1_widthOf knX1_widthOf kmX1_88 hr.o (c_X1_widthOf l hr (hs.fr hf hd) i (by omega) hlc htb) (by decide) (Nat.zero_le _) (Nat.zero_le _) (Nat.le_of_ble_eq_true rfl) (fun z56 q56 => ?_)
  rw [hV] at q56
  subst q56
  refine x_iast C dX1_flow_59 hr.a5 (by omega) (by rw [hr.l5]; omega) ?_
  refine ab_C_B5 hr hf (by rw [List.length_set]; exact hr.l5) (fun w hr hf => ?_)
  refine x_aload_n C dX1_flow_60 rfl ?_
  refine x_get C dX1_flow_61 kfX1_18 hr.o rfl ?_
  refine x_iload_n C dX1_flow_64 rfl ?_
  refine x_aload_n C dX1_flow_65 rfl ?_
  refine x_get C dX1_flow_66 kfX1_41 hr.o rfl ?_
  refine x_iconst C dX1_flow_69 ⟨by decide, by decide⟩ ?_
  refine x_isub C dX1_flow_70 (by first | (unfold iR; omega) | exact ⟨by omega, by omega⟩) ?_
  refine x_iast C dX1_flow_71 hr.a3 (by omega) (by rw [hr.l3]; omega) ?_
  refine ab_C_B3 hr hf (by rw [List.length_set]; exact hr.l3) (fun w hr hf => ?_)
  refine x_aload_n C dX1_flow_72 rfl ?_
  refine x_get C dX1_flow_73 kfX1_21 hr.o rfl ?_
  refine x_iload_n C dX1_flow_76 rfl ?_
  refine x_aload_n C dX1_flow_77 rfl ?_
  refine x_get C dX1_flow_78 kfX1_85 hr.o rfl ?_
  refine x_iast C dX1_flow_81 hr.a4 (by omega) (by rw [hr.l4]; omega) ?_
  refine ab_C_B4 hr hf (by rw [List.length_set]; exact hr.l4) (fun w hr hf => ?_)
  refine x_aload_n C dX1_flow_82 rfl ?_
  refine x_dup C dX1_flow_83 rfl ?_
  refine x_get C dX1_flow_84 kfX1_85 hr.o rfl ?_
  refine x_aload_n C dX1_flow_87 rfl ?_
  refine x_get C dX1_flow_88 kfX1_24 hr.o rfl ?_
  refine x_iload_n C dX1_flow_91 rfl ?_
  refine x_iald C dX1_flow_92 hr.a5 (by omega) (by rw [hr.l5]; omega) ?_
  rw [gd_setS _ (by rw [l5]; omega)]
  refine x_iadd C dX1_flow_93 (by first | (unfold iR; omega) | exact ⟨by omega, by omega⟩) ?_
  refine x_put C dX1_flow_94 kfX1_85 kw_1_9 rfl rfl hr.o (Nat.le_of_ble_eq_true rfl) ?_
  refine ab_C_lc hr hf (fun w hr hf => ?_)
  refine x_aload_n C dX1_flow_97 rfl ?_
  refine y_v0 C dX1_flow_98 kyX1_closeRow knX1_closeRow kmX1_92 hr.o (c_X1_closeRow l hr (by omega)) (by decide) (Nat.zero_le _) (Nat.zero_le _) (Nat.le_of_ble_eq_true rfl) (fun w98 q98 => ?_)
  obtain ⟨hr, hf9⟩ := q98
  have hf := hf.tr hf9
  refine x_aload_n C dX1_flow_101 rfl ?_
  refine x_get C dX1_flow_102 kfX1_9 hr.o rfl ?_
  refine x_iload_n C dX1_flow_105 rfl ?_
  refine x_iald C dX1_flow_106 hr.a1 (by omega) (by rw [hr.l1]; omega) ?_
  refine x_bipush C dX1_flow_107 ⟨by decide, by decide⟩ ?_
  refine x_icmp_eq (tgt := 116) C dX1_flow_109 (by decide) (fun c109 => ?_) (fun c109 => ?_)
  · refine x_iconst C dX1_flow_116 ⟨by decide, by decide⟩ ?_
    refine s_ist4_2 C dX1_flow_117 rfl ?_
    refine x_iload_n C dX1_flow_118 rfl ?_
    refine x_if_ne (tgt := 127) C dX1_flow_119 (by decide) (fun c119 => ?_) (fun c119 => ?_)
    · refine s_inc4_3 C dX1_flow_127 rfl (by first | (unfold iR; omega) | exact ⟨by omega, by omega⟩) ?_
      refine x_goto (tgt := 14) C dX1_flow_130 (by decide) ?_
      omega
    · refine x_aload_n C dX1_flow_122 rfl ?_
      refine x_iconst C dX1_flow_123 ⟨by decide, by decide⟩ ?_
      refine y_v1 C dX1_flow_124 kyX1_openRow knX1_openRow kmX1_74 hr.o (c_X1_openRow l hr 1 (Or.inr rfl) (by omega)) (by decide) (Nat.zero_le _) (Nat.zero_le _) (Nat.le_of_ble_eq_true rfl) (fun w124 q124 => ?_)
      obtain ⟨hr, hf9⟩ := q124
      have hf := hf.tr hf9
      refine s_inc4_3 C dX1_flow_127 rfl (by first | (unfold iR; omega) | exact ⟨by omega, by omega⟩) ?_
      refine x_goto (tgt := 14) C dX1_flow_130 (by decide) ?_
      exact kx2 c109 _ hr hf
  · refine x_iconst C dX1_flow_112 ⟨by decide, by decide⟩ ?_
    refine x_goto (tgt := 117) C dX1_flow_113 (by decide) ?_
    refine s_ist4_2 C dX1_flow_117 rfl ?_
    refine x_iload_n C dX1_flow_118 rfl ?_
    refine x_if_ne (tgt := 127) C dX1_flow_119 (by decide) (fun c119 => ?_) (fun c119 => ?_)
    · refine s_inc4_3 C dX1_flow_127 rfl (by first | (unfold iR; omega) | exact ⟨by omega, by omega⟩) ?_
      refine x_goto (tgt := 14) C dX1_flow_130 (by decide) ?_
      exact kx1 c109 _ hr hf
    · refine x_aload_n C dX1_flow_122 rfl ?_
      refine x_iconst C dX1_flow_123 ⟨by decide, by decide⟩ ?_
      refine y_v1 C dX1_flow_124 kyX1_openRow knX1_openRow kmX1_74 hr.o (c_X1_openRow l hr 1 (Or.inr rfl) (by omega)) (by decide) (Nat.zero_le _) (Nat.zero_le _) (Nat.le_of_ble_eq_true rfl) (fun w124 q124 => ?_)
      obtain ⟨hr, hf9⟩ := q124
      have hf := hf.tr hf9
      refine s_inc4_3 C dX1_flow_127 rfl (by first | (unfold iR; omega) | exact ⟨by omega, by omega⟩) ?_
      refine x_goto (tgt := 14) C dX1_flow_130 (by decide) ?_
      omega

set_option maxHeartbeats 1000000 in
set_option maxRecDepth 100000 in
theorem lp_X1_flow {t : TX} {l : Launch} {n0 : Nat} {w0 : mW} {h u : Nat} {n fc hc mo wi nd tb : Int} {A1 A2 A3 A4 A5 A6 : List Int} (hs : rS w0 u n fc hc mo wi nd tb A1 A2 A3 A4 A5 A6) (hd : u + 6 < h ∨ h + 7 < u) (htb : 1 ≤ tb ∧ tb ≤ 8) (hwi : 4 ≤ wi ∧ wi ≤ 20) (hnd : 0 ≤ nd ∧ nd ≤ 3) (C : Cb t l cX1_flow RX1 4 none 3 0 0) {PL : List mP} {RW : List (Int × Int)} {Q : mW → Prop} (hQ : RQ t 0 0 (fun r n' w' => n' = n0 ∧ r = none ∧ Q w')) (hfin : ∀ w', isSc w' h PL RW → frR w0 w' h (h + 7) → Q w') : ∀ (R : List mI) (P : List mP) (rw : List (Int × Int)) (cs col k fz : Int) (pw fl : Bool) (J1 J2 J3 J4 J5 J6 J7 : List Int) (w : mW), rC w h (P.length + R.length) (rw.length + 1) col (P.map (fun q => q.1) ++ (R.map (fun q => q.1) ++ J1)) (P.map (fun q => q.2.1) ++ (R.map (fun q => q.2.1) ++ J2)) (P.map (fun q => q.2.2.1) ++ J3) (P.map (fun q => q.2.2.2.1) ++ J4) (P.map (fun q => q.2.2.2.2) ++ (R.map (fun q => q.2.2) ++ J5)) (rw.map (fun q => q.1) ++ (col :: J6)) (rw.map (fun q => q.2) ++ (cs :: J7)) → frR w0 w h (h + 7) → k = P.length → ((fz = 1 ∧ fl = true) ∨ (fz = 0 ∧ fl = false)) → (pw = true ↔ 0 < k ∧ (P.map (fun q => q.1) ++ (R.map (fun q => q.1) ++ J1)).getD (k - 1).toNat 0 ≠ 26 ∧ (P.map (fun q => q.1) ++ (R.map (fun q => q.1) ++ J1)).getD (k - 1).toNat 0 ≠ 27) → (rw.length : Int) + fz ≤ P.length → (0 ≤ col ∧ col ≤ 3 + 8 * P.length) → (∀ x ∈ R, 0 ≤ x.2.2 ∧ x.2.2 ≤ 5) → P ++ (flw mo wi nd tb R pw fl rw cs col).1 = PL → (flw mo wi nd tb R pw fl rw cs col).2 = RW → J t 0 0 14 [some (vr h), some (vr u), some (vi fz), some (vi k)] [] n0 w := by
  intro R
  induction R with
  | nil =>
    intro P rw cs col k fz pw fl J1 J2 J3 J4 J5 J6 J7 w hr hf hk hfz hpw hrw hcol hb hPL hRW
    have l1 := hr.l1
    have l2 := hr.l2
    have l3 := hr.l3
    have l4 := hr.l4
    have l5 := hr.l5
    have l6 := hr.l6
    have l7 := hr.l7
    simp only [List.length_append, List.length_map, List.length_cons] at l1 l2 l3 l4 l5 l6 l7
    refine x_iload_n C dX1_flow_14 rfl ?_
    refine x_aload_n C dX1_flow_15 rfl ?_
    refine x_get C dX1_flow_16 kfX1_45 hr.o rfl ?_
    refine x_icmp_ge (tgt := 133) C dX1_flow_19 (by decide) (fun c19 => ?_) (fun c19 => ?_)
    · refine x_vret C hQ dX1_flow_133 (Nat.le_refl _) (Nat.le_refl _) ?_
      refine ⟨rfl, rfl, hfin w ?_ hf⟩
      rw [← hPL, ← hRW]
      simp only [flw, List.append_nil]
      refine ⟨J1, J2, J3, J4, J5, J6, J7, ?_⟩
      rw [lastC_app]
      simpa using hr
    · simp only [List.length_nil] at *
      omega
  | cons q R ih =>
    intro P rw cs col k fz pw fl J1 J2 J3 J4 J5 J6 J7 w hr hf hk hfz hpw hrw hcol hb hPL hRW
    have l1 := hr.l1
    have l2 := hr.l2
    have l3 := hr.l3
    have l4 := hr.l4
    have l5 := hr.l5
    have l6 := hr.l6
    have l7 := hr.l7
    simp only [List.length_append, List.length_map, List.length_cons] at l1 l2 l3 l4 l5 l6 l7
    obtain ⟨x3, J3, rfl⟩ : ∃ u v, J3 = u :: v := List.exists_cons_of_length_pos (by omega)
    obtain ⟨x4, J4, rfl⟩ : ∃ u v, J4 = u :: v := List.exists_cons_of_length_pos (by omega)
    obtain ⟨x6, J6, rfl⟩ : ∃ u v, J6 = u :: v := List.exists_cons_of_length_pos (by omega)
    obtain ⟨x7, J7, rfl⟩ : ∃ u v, J7 = u :: v := List.exists_cons_of_length_pos (by omega)
    have hqr : (q :: R).length = R.length + 1 := List.length_cons
    have hbq := hb q List.mem_cons_self
    have v1 : (P.map (fun q => q.1) ++ ((q :: R).map (fun q => q.1) ++ J1)).getD k.toNat 0 = q.1 := gd_mid _ q.1 _ (by first | (simp; done) | (simp; omega) | omega)
    have v5 : (P.map (fun q => q.2.2.2.2) ++ ((q :: R).map (fun q => q.2.2) ++ J5)).getD k.toNat 0 = q.2.2 := gd_mid _ q.2.2 _ (by first | (simp; done) | (simp; omega) | omega)
    simp only [List.length_cons] at l1 l2 l3 l4 l5 l6 l7
    refine x_iload_n C dX1_flow_14 rfl ?_
    refine x_aload_n C dX1_flow_15 rfl ?_
    refine x_get C dX1_flow_16 kfX1_45 hr.o rfl ?_
    refine x_icmp_ge (tgt := 133) C dX1_flow_19 (by decide) (fun c19 => absurd c19 (by omega)) (fun c19 => ?_)
    refine x_iload_n C dX1_flow_22 rfl ?_
    refine x_if_eq (tgt := 48) C dX1_flow_23 (by decide) (fun c23 => ?_) (fun c23 => ?_)
    · rw [flw, if_neg (by rw [Bool.and_eq_true]; intro h9; rcases hfz with h8 | h8 <;> first | omega | (rw [h8.2] at h9; exact absurd h9.1 (by decide)))] at hPL hRW
      simp only at hPL hRW
      refine lp_X1_flow_48 hs hd htb C hr hf (by omega) (by first | omega | skip; omega) (by omega) (by rw [v5]; exact hbq) (fun hn w hr hf => ?_) (fun hn w hr hf => ?_)
      · rw [v1] at hn
        have hwf := widF_bd (c := q.1) htb (show 0 ≤ col by omega) hbq
        rw [if_neg hn] at hPL hRW
        refine ih (P ++ [(q.1, q.2.1, (rw.length : Int), col, widF tb col q.1 q.2.2)]) rw cs (col + widF tb col q.1 q.2.2) (k + 1) 1 (isWc q.1) true J1 J2 J3 J4 J5 (x6 :: J6) (x7 :: J7) w ?_ hf (by first | (simp; done) | (simp; omega) | omega) (Or.inl ⟨rfl, rfl⟩) ?_ (by first | (simp; done) | (simp; omega) | omega) (by first | (simp; done) | (simp; omega) | omega) (fun x hx => hb x (List.mem_cons_of_mem _ hx)) (by rw [← hPL]; simp) hRW
        · rw [v1, v5] at hr
          simp only [List.map_cons, List.cons_append] at hr
          rw [set_mid _ x3 _ J3 (by first | (simp; done) | (simp; omega) | omega)] at hr
          rw [set_mid _ x4 _ J4 (by first | (simp; done) | (simp; omega) | omega)] at hr
          rw [set_mid _ q.2.2 _ _ (by first | (simp; done) | (simp; omega) | omega)] at hr
          rw [set_mid _ col _ (x6 :: J6) (by first | (simp; done) | (simp; omega) | omega)] at hr
          try rw [show ((rw.length : Int) + 1 + 1 - 1) = rw.length + 1 by omega] at hr
          simpa [Int.add_assoc, Int.add_comm, Int.add_left_comm] using hr
        · have v9 : (((P ++ [(q.1, q.2.1, (rw.length : Int), col, widF tb col q.1 q.2.2)])).map (fun q => q.1) ++ (R.map (fun q => q.1) ++ J1)).getD (k + 1 - 1).toNat 0 = q.1 := by
            rw [List.map_append, List.append_assoc]
            exact gd_mid _ q.1 _ (by first | (simp; done) | (simp; omega) | omega)
          rw [v9, isWc, decide_eq_true_iff]
          omega
      · rw [v1] at hn
        have hw0 : widF tb col q.1 q.2.2 = 0 := by unfold widF; rw [if_pos hn]
        rw [if_pos hn] at hPL hRW
        refine ih (P ++ [(q.1, q.2.1, (rw.length : Int), col, widF tb col q.1 q.2.2)]) (rw ++ [(col + widF tb col q.1 q.2.2, cs)]) 1 0 (k + 1) 0 false false J1 J2 J3 J4 J5 J6 J7 w ?_ hf (by first | (simp; done) | (simp; omega) | omega) (Or.inr ⟨rfl, rfl⟩) ?_ (by first | (simp; done) | (simp; omega) | omega) (by omega) (fun x hx => hb x (List.mem_cons_of_mem _ hx)) (by rw [← hPL]; simp) hRW
        · rw [v1, v5] at hr
          simp only [List.map_cons, List.cons_append] at hr
          rw [set_mid _ x3 _ J3 (by first | (simp; done) | (simp; omega) | omega)] at hr
          rw [set_mid _ x4 _ J4 (by first | (simp; done) | (simp; omega) | omega)] at hr
          rw [set_mid _ q.2.2 _ _ (by first | (simp; done) | (simp; omega) | omega)] at hr
          rw [set_mid _ col _ (x6 :: J6) (by first | (simp; done) | (simp; omega) | omega)] at hr
          rw [set_mid2 _ _ x6 0 J6 (by first | (simp; done) | (simp; omega) | omega)] at hr
          rw [set_mid2 _ cs x7 1 J7 (by first | (simp; done) | (simp; omega) | omega)] at hr
          simpa [Int.add_assoc, Int.add_comm, Int.add_left_comm] using hr
        · have v9 : (((P ++ [(q.1, q.2.1, (rw.length : Int), col, widF tb col q.1 q.2.2)])).map (fun q => q.1) ++ (R.map (fun q => q.1) ++ J1)).getD (k + 1 - 1).toNat 0 = q.1 := by
            rw [List.map_append, List.append_assoc]
            exact gd_mid _ q.1 _ (by first | (simp; done) | (simp; omega) | omega)
          rw [v9]
          simp only [Bool.false_eq_true, false_iff]
          omega
    · refine x_aload_n C dX1_flow_26 rfl ?_
      refine x_aload_n C dX1_flow_27 rfl ?_
      refine x_iload_n C dX1_flow_28 rfl ?_
      refine y_p2 C dX1_flow_29 kyX1_goesOn knX1_goesOn kmX1_78 hr.o (c_X1_goesOn l hr (hs.fr hf hd) k pw (q := q) (R := R) rfl rfl (by first | (simp; done) | (simp; omega) | omega) (by first | (simp; done) | (simp; omega) | omega) (by first | (simp; done) | (simp; omega) | omega) hb hpw (by omega) htb (by omega) (by omega)) (by decide) (Nat.zero_le _) (Nat.zero_le _) (Nat.le_of_ble_eq_true rfl) (fun z29 q29 => ?_)
      refine x_if_eq (tgt := 48) C dX1_flow_32 (by decide) (fun c32 => ?_) (fun c32 => ?_)
      · rw [flw, if_neg (by rw [Bool.and_eq_true]; intro h9; have := q29.2.mpr h9.2; omega)] at hPL hRW
        simp only at hPL hRW
        refine lp_X1_flow_48 hs hd htb C hr hf (by omega) (by first | omega | skip; omega) (by omega) (by rw [v5]; exact hbq) (fun hn w hr hf => ?_) (fun hn w hr hf => ?_)
        · rw [v1] at hn
          have hwf := widF_bd (c := q.1) htb (show 0 ≤ col by omega) hbq
          rw [if_neg hn] at hPL hRW
          refine ih (P ++ [(q.1, q.2.1, (rw.length : Int), col, widF tb col q.1 q.2.2)]) rw cs (col + widF tb col q.1 q.2.2) (k + 1) 1 (isWc q.1) true J1 J2 J3 J4 J5 (x6 :: J6) (x7 :: J7) w ?_ hf (by first | (simp; done) | (simp; omega) | omega) (Or.inl ⟨rfl, rfl⟩) ?_ (by first | (simp; done) | (simp; omega) | omega) (by first | (simp; done) | (simp; omega) | omega) (fun x hx => hb x (List.mem_cons_of_mem _ hx)) (by rw [← hPL]; simp) hRW
          · rw [v1, v5] at hr
            simp only [List.map_cons, List.cons_append] at hr
            rw [set_mid _ x3 _ J3 (by first | (simp; done) | (simp; omega) | omega)] at hr
            rw [set_mid _ x4 _ J4 (by first | (simp; done) | (simp; omega) | omega)] at hr
            rw [set_mid _ q.2.2 _ _ (by first | (simp; done) | (simp; omega) | omega)] at hr
            rw [set_mid _ col _ (x6 :: J6) (by first | (simp; done) | (simp; omega) | omega)] at hr
            try rw [show ((rw.length : Int) + 1 + 1 - 1) = rw.length + 1 by omega] at hr
            simpa [Int.add_assoc, Int.add_comm, Int.add_left_comm] using hr
          · have v9 : (((P ++ [(q.1, q.2.1, (rw.length : Int), col, widF tb col q.1 q.2.2)])).map (fun q => q.1) ++ (R.map (fun q => q.1) ++ J1)).getD (k + 1 - 1).toNat 0 = q.1 := by
              rw [List.map_append, List.append_assoc]
              exact gd_mid _ q.1 _ (by first | (simp; done) | (simp; omega) | omega)
            rw [v9, isWc, decide_eq_true_iff]
            omega
        · rw [v1] at hn
          have hw0 : widF tb col q.1 q.2.2 = 0 := by unfold widF; rw [if_pos hn]
          rw [if_pos hn] at hPL hRW
          refine ih (P ++ [(q.1, q.2.1, (rw.length : Int), col, widF tb col q.1 q.2.2)]) (rw ++ [(col + widF tb col q.1 q.2.2, cs)]) 1 0 (k + 1) 0 false false J1 J2 J3 J4 J5 J6 J7 w ?_ hf (by first | (simp; done) | (simp; omega) | omega) (Or.inr ⟨rfl, rfl⟩) ?_ (by first | (simp; done) | (simp; omega) | omega) (by omega) (fun x hx => hb x (List.mem_cons_of_mem _ hx)) (by rw [← hPL]; simp) hRW
          · rw [v1, v5] at hr
            simp only [List.map_cons, List.cons_append] at hr
            rw [set_mid _ x3 _ J3 (by first | (simp; done) | (simp; omega) | omega)] at hr
            rw [set_mid _ x4 _ J4 (by first | (simp; done) | (simp; omega) | omega)] at hr
            rw [set_mid _ q.2.2 _ _ (by first | (simp; done) | (simp; omega) | omega)] at hr
            rw [set_mid _ col _ (x6 :: J6) (by first | (simp; done) | (simp; omega) | omega)] at hr
            rw [set_mid2 _ _ x6 0 J6 (by first | (simp; done) | (simp; omega) | omega)] at hr
            rw [set_mid2 _ cs x7 1 J7 (by first | (simp; done) | (simp; omega) | omega)] at hr
            simpa [Int.add_assoc, Int.add_comm, Int.add_left_comm] using hr
          · have v9 : (((P ++ [(q.1, q.2.1, (rw.length : Int), col, widF tb col q.1 q.2.2)])).map (fun q => q.1) ++ (R.map (fun q => q.1) ++ J1)).getD (k + 1 - 1).toNat 0 = q.1 := by
              rw [List.map_append, List.append_assoc]
              exact gd_mid _ q.1 _ (by first | (simp; done) | (simp; omega) | omega)
            rw [v9]
            simp only [Bool.false_eq_true, false_iff]
            omega
      · refine x_aload_n C dX1_flow_35 rfl ?_
        refine x_iconst C dX1_flow_36 ⟨by decide, by decide⟩ ?_
        refine y_v1 C dX1_flow_37 kyX1_openRow knX1_openRow kmX1_74 hr.o (c_X1_openRow l hr 0 (Or.inl rfl) (by omega)) (by decide) (Nat.zero_le _) (Nat.zero_le _) (Nat.le_of_ble_eq_true rfl) (fun w37 q37 => ?_)
        obtain ⟨hr, hf9⟩ := q37
        have hf := hf.tr hf9
        refine x_aload_n C dX1_flow_40 rfl ?_
        refine x_aload_n C dX1_flow_41 rfl ?_
        refine x_get C dX1_flow_42 kfX1_82 (hs.fr hf hd).o rfl ?_
        refine x_put C dX1_flow_45 kfX1_85 kw_1_9 rfl rfl hr.o (Nat.le_of_ble_eq_true rfl) ?_
        refine ab_C_lc hr hf (fun w hr hf => ?_)
        rw [set_mid2 _ col x6 0 J6 (by first | (simp; done) | (simp; omega) | omega)] at hr
        rw [set_mid2 _ cs x7 0 J7 (by first | (simp; done) | (simp; omega) | omega)] at hr
        rw [flw, if_pos (by rw [Bool.and_eq_true]; exact ⟨by rcases hfz with h9 | h9 <;> first | exact h9.2 | omega, q29.2.mp (by omega)⟩)] at hPL hRW
        simp only at hPL hRW
        have hq27 : q.1 ≠ 27 := by
          have h9 := q29.2.mp (by omega)
          rw [goesF, decide_eq_true_iff] at h9
          exact h9.2.1
        refine lp_X1_flow_48 hs hd htb C hr hf (by omega) (by first | omega | skip; omega) (by omega) (by rw [v5]; exact hbq) (fun hn w hr hf => ?_) (fun hn w hr hf => ?_)
        · rw [v1] at hn
          have hwf := widF_bd (c := q.1) htb (show 0 ≤ nd by omega) hbq
          refine ih (P ++ [(q.1, q.2.1, (rw.length : Int) + 1, nd, widF tb nd q.1 q.2.2)]) (rw ++ [(col, cs)]) 0 (nd + widF tb nd q.1 q.2.2) (k + 1) 1 (isWc q.1) true J1 J2 J3 J4 J5 J6 J7 w ?_ hf (by first | (simp; done) | (simp; omega) | omega) (Or.inl ⟨rfl, rfl⟩) ?_ (by first | (simp; done) | (simp; omega) | omega) (by first | (simp; done) | (simp; omega) | omega) (fun x hx => hb x (List.mem_cons_of_mem _ hx)) (by rw [← hPL]; simp) hRW
          · rw [v1, v5] at hr
            simp only [List.map_cons, List.cons_append] at hr
            rw [set_mid _ x3 _ J3 (by first | (simp; done) | (simp; omega) | omega)] at hr
            rw [set_mid _ x4 _ J4 (by first | (simp; done) | (simp; omega) | omega)] at hr
            rw [set_mid _ q.2.2 _ _ (by first | (simp; done) | (simp; omega) | omega)] at hr
            rw [set_mid2 _ col 0 _ J6 (by first | (simp; done) | (simp; omega) | omega)] at hr
            try rw [show ((rw.length : Int) + 1 + 1 - 1) = rw.length + 1 by omega] at hr
            simpa [Int.add_assoc, Int.add_comm, Int.add_left_comm] using hr
          · have v9 : (((P ++ [(q.1, q.2.1, (rw.length : Int) + 1, nd, widF tb nd q.1 q.2.2)])).map (fun q => q.1) ++ (R.map (fun q => q.1) ++ J1)).getD (k + 1 - 1).toNat 0 = q.1 := by
              rw [List.map_append, List.append_assoc]
              exact gd_mid _ q.1 _ (by first | (simp; done) | (simp; omega) | omega)
            rw [v9, isWc, decide_eq_true_iff]
            omega
        · rw [v1] at hn
          exact absurd hn hq27
