theorem smid1 {α : Type} (f : α → Int) (P R : List α) (r : α) (j : List Int) (y : Int) {k : Int} (hk : k = P.length) : ((P ++ [r] ++ R).map f ++ j).set k.toNat y = P.map f ++ y :: (R.map f ++ j) := by
  rw [List.append_assoc, List.singleton_append]
  exact mset_at f P R r j y hk
theorem gmid1 {α : Type} (f : α → Int) (P R : List α) (r : α) (j : List Int) {k : Int} (hk : k = P.length) : ((P ++ [r] ++ R).map f ++ j).getD k.toNat 0 = f r := by
  rw [List.append_assoc, List.singleton_append]
  exact gmap_at f P R r j hk

set_option maxHeartbeats 4000000 in
set_option maxRecDepth 100000 in
theorem lp_X2_pullFolds {t : TX} {l : Launch} {n0 : Nat} {w0 : mW} {h : Nat} {sg : List Int} {hi : List (Int × Int)} {mo wi nd tb : Int} (a : Int) (C : Cb t l cX2_pullFolds RX2 3 none 2 0 0) {Q : mW → Prop} (hQ : RQ t 0 0 (fun r n' w' => n' = n0 ∧ r = none ∧ Q w')) : ∀ (m : Nat) (P R : List (Int × Int × Int)) (k : Int) (w : mW), P.length = m → k = (P.length : Int) - 1 → isSh w h sg (P ++ R) hi mo wi nd tb → frR w0 w h (h + 6) → smF P → (∀ w', isSh w' h sg ((P.map (dnF a)).filter okF ++ R) hi mo wi nd tb → frR w0 w' h (h + 6) → Q w') → J t 0 0 7 [some (vr h), some (vi a), some (vi k)] [] n0 w := by
  intro m
  induction m with
  | zero =>
    intro P R k w hm hk hS hf hb hfin
    have hP : P = [] := List.eq_nil_of_length_eq_zero hm
    subst hP
    have hS2 := hS
    obtain ⟨j1, j2, j3, j4, j5, j6, hr⟩ := hS
    refine x_iload_n C dX2_pullFolds_7 rfl ?_
    refine x_if_lt (tgt := 77) C dX2_pullFolds_8 (by decide) (fun c8 => ?_) (fun c8 => ?_)
    · refine x_vret C hQ dX2_pullFolds_77 (Nat.le_refl _) (Nat.le_refl _) ?_
      exact ⟨rfl, rfl, hfin w (by simpa using hS2) hf⟩
    · simp only [List.length_nil] at hk
      omega
  | succ m ih =>
    intro P R k w hm hk hS hf hb hfin
    obtain ⟨P0, r, rfl, hP0⟩ := snoc P m hm
    simp only [List.length_append, List.length_cons, List.length_nil] at hk
    have hbr := hb r (by simp)
    have hlen := hS.len
    simp only [List.length_append, List.length_cons, List.length_nil] at hlen
    obtain ⟨j1, j2, j3, j4, j5, j6, hr⟩ := hS
    have e2 := gmid1 (fun f : Int × Int × Int => f.1) P0 R r j2 (k := k) (by omega)
    have e3 := gmid1 (fun f : Int × Int × Int => f.2.1) P0 R r j3 (k := k) (by omega)
    refine x_iload_n C dX2_pullFolds_7 rfl ?_
    refine x_if_lt (tgt := 77) C dX2_pullFolds_8 (by decide) (fun c8 => absurd c8 (by omega)) (fun c8 => ?_)
    refine x_aload_n C dX2_pullFolds_11 rfl ?_
    refine x_get C dX2_pullFolds_12 kfX2_15 hr.o rfl ?_
    refine x_iload_n C dX2_pullFolds_15 rfl ?_
    refine x_iald C dX2_pullFolds_16 hr.a2 (by omega) (by rw [hr.l2]; omega) ?_
    rw [e2]
    refine x_iload_n C dX2_pullFolds_17 rfl ?_
    refine x_icmp_le (tgt := 31) C dX2_pullFolds_18 (by decide) (fun c18 => ?_) (fun c18 => ?_)
    · refine x_aload_n C dX2_pullFolds_31 rfl ?_
      refine x_get C dX2_pullFolds_32 kfX2_18 hr.o rfl ?_
      refine x_iload_n C dX2_pullFolds_35 rfl ?_
      refine x_iald C dX2_pullFolds_36 hr.a3 (by omega) (by rw [hr.l3]; omega) ?_
      rw [e3]
      refine x_iload_n C dX2_pullFolds_37 rfl ?_
      refine x_icmp_le (tgt := 51) C dX2_pullFolds_38 (by decide) (fun c38 => ?_) (fun c38 => ?_)
      · have ed : dnF a r = (r.1, r.2.1, r.2.2) := by
          unfold dnF
          rw [if_neg (by omega), if_neg (by omega)]
        have hS3 : isSh w h sg (P0 ++ dnF a r :: R) hi mo wi nd tb := by
          rw [ed]
          exact ⟨j1, j2, j3, j4, j5, j6, by simpa using hr⟩
        have hS4 := hS3
        obtain ⟨j1, j2, j3, j4, j5, j6, hr⟩ := hS3
        have e2 := gmap_at (fun f : Int × Int × Int => f.1) P0 R (dnF a r) j2 (k := k) (by omega)
        have e3 := gmap_at (fun f : Int × Int × Int => f.2.1) P0 R (dnF a r) j3 (k := k) (by omega)
        refine x_aload_n C dX2_pullFolds_51 rfl ?_
        refine x_get C dX2_pullFolds_52 kfX2_15 hr.o rfl ?_
        refine x_iload_n C dX2_pullFolds_55 rfl ?_
        refine x_iald C dX2_pullFolds_56 hr.a2 (by omega) (by rw [hr.l2]; omega) ?_
        rw [e2]
        refine x_aload_n C dX2_pullFolds_57 rfl ?_
        refine x_get C dX2_pullFolds_58 kfX2_18 hr.o rfl ?_
        refine x_iload_n C dX2_pullFolds_61 rfl ?_
        refine x_iald C dX2_pullFolds_62 hr.a3 (by omega) (by rw [hr.l3]; omega) ?_
        rw [e3]
        refine x_icmp_lt (tgt := 71) C dX2_pullFolds_63 (by decide) (fun c63 => ?_) (fun c63 => ?_)
        · refine s_inc3_2 C dX2_pullFolds_71 rfl (by first | (unfold iR; omega) | exact ⟨by omega, by omega⟩) ?_
          refine x_goto (tgt := 7) C dX2_pullFolds_74 (by decide) ?_
          refine ih P0 (dnF a r :: R) (k + -1) w hP0 (by omega) hS4 hf (fun q hq => hb q (by simp [hq])) (fun w9 h8 h9 => hfin w9 ?_ h9)
          rw [List.map_append, List.filter_append, List.map_cons, List.map_nil, List.filter_cons_of_pos (by simp [okF]; omega), List.filter_nil, List.append_assoc, List.singleton_append]
          exact h8
        · refine x_aload_n C dX2_pullFolds_66 rfl ?_
          refine x_iload_n C dX2_pullFolds_67 rfl ?_
          refine y_v1 C dX2_pullFolds_68 kyX2_dropFold knX2_dropFold kmX2_81 hr.o (c_X2_dropFold l hS4 k) (by decide) (Nat.zero_le _) (Nat.zero_le _) (Nat.le_of_ble_eq_true rfl) (fun w68 q68 => ?_)
          obtain ⟨hS5, hf9⟩ := q68
          have hf := hf.tr hf9
          rw [dropI, if_pos (by simp; omega), show k.toNat = P0.length by omega, erase_at] at hS5
          refine s_inc3_2 C dX2_pullFolds_71 rfl (by first | (unfold iR; omega) | exact ⟨by omega, by omega⟩) ?_
          refine x_goto (tgt := 7) C dX2_pullFolds_74 (by decide) ?_
          refine ih P0 R (k + -1) w68 hP0 (by omega) hS5 hf (fun q hq => hb q (by simp [hq])) (fun w9 h8 h9 => hfin w9 ?_ h9)
          rw [List.map_append, List.filter_append, List.map_cons, List.map_nil, List.filter_cons_of_neg (by simp [okF]; omega), List.filter_nil, List.append_nil]
          exact h8
      · refine x_aload_n C dX2_pullFolds_41 rfl ?_
        refine x_get C dX2_pullFolds_42 kfX2_18 hr.o rfl ?_
        refine x_iload_n C dX2_pullFolds_45 rfl ?_
        refine x_dup2 C dX2_pullFolds_46 rfl rfl ?_
        refine x_iald C dX2_pullFolds_47 hr.a3 (by omega) (by rw [hr.l3]; omega) ?_
        rw [e3]
        refine x_iconst C dX2_pullFolds_48 ⟨by decide, by decide⟩ ?_
        refine x_isub C dX2_pullFolds_49 (by first | (unfold iR; omega) | exact ⟨by omega, by omega⟩) ?_
        refine x_iast C dX2_pullFolds_50 hr.a3 (by omega) (by rw [hr.l3]; omega) ?_
        refine ab_S_A3 hr hf (by rw [List.length_set]; exact hr.l3) (fun w hr hf => ?_)
        have ed : dnF a r = (r.1, r.2.1 - 1, r.2.2) := by
          unfold dnF
          rw [if_neg (by omega), if_pos (by omega)]
        rw [smid1 _ P0 R r j3 _ (by omega)] at hr
        have hS3 : isSh w h sg (P0 ++ dnF a r :: R) hi mo wi nd tb := by
          rw [ed]
          exact ⟨j1, j2, j3, j4, j5, j6, by simpa using hr⟩
        have hS4 := hS3
        obtain ⟨j1, j2, j3, j4, j5, j6, hr⟩ := hS3
        have e2 := gmap_at (fun f : Int × Int × Int => f.1) P0 R (dnF a r) j2 (k := k) (by omega)
        have e3 := gmap_at (fun f : Int × Int × Int => f.2.1) P0 R (dnF a r) j3 (k := k) (by omega)
        refine x_aload_n C dX2_pullFolds_51 rfl ?_
        refine x_get C dX2_pullFolds_52 kfX2_15 hr.o rfl ?_
        refine x_iload_n C dX2_pullFolds_55 rfl ?_
        refine x_iald C dX2_pullFolds_56 hr.a2 (by omega) (by rw [hr.l2]; omega) ?_
        rw [e2]
        refine x_aload_n C dX2_pullFolds_57 rfl ?_
        refine x_get C dX2_pullFolds_58 kfX2_18 hr.o rfl ?_
        refine x_iload_n C dX2_pullFolds_61 rfl ?_
        refine x_iald C dX2_pullFolds_62 hr.a3 (by omega) (by rw [hr.l3]; omega) ?_
        rw [e3]
        refine x_icmp_lt (tgt := 71) C dX2_pullFolds_63 (by decide) (fun c63 => ?_) (fun c63 => ?_)
        · refine s_inc3_2 C dX2_pullFolds_71 rfl (by first | (unfold iR; omega) | exact ⟨by omega, by omega⟩) ?_
          refine x_goto (tgt := 7) C dX2_pullFolds_74 (by decide) ?_
          refine ih P0 (dnF a r :: R) (k + -1) w hP0 (by omega) hS4 hf (fun q hq => hb q (by simp [hq])) (fun w9 h8 h9 => hfin w9 ?_ h9)
          rw [List.map_append, List.filter_append, List.map_cons, List.map_nil, List.filter_cons_of_pos (by simp [okF]; omega), List.filter_nil, List.append_assoc, List.singleton_append]
          exact h8
        · refine x_aload_n C dX2_pullFolds_66 rfl ?_
          refine x_iload_n C dX2_pullFolds_67 rfl ?_
          refine y_v1 C dX2_pullFolds_68 kyX2_dropFold knX2_dropFold kmX2_81 hr.o (c_X2_dropFold l hS4 k) (by decide) (Nat.zero_le _) (Nat.zero_le _) (Nat.le_of_ble_eq_true rfl) (fun w68 q68 => ?_)
          obtain ⟨hS5, hf9⟩ := q68
          have hf := hf.tr hf9
          rw [dropI, if_pos (by simp; omega), show k.toNat = P0.length by omega, erase_at] at hS5
          refine s_inc3_2 C dX2_pullFolds_71 rfl (by first | (unfold iR; omega) | exact ⟨by omega, by omega⟩) ?_
          refine x_goto (tgt := 7) C dX2_pullFolds_74 (by decide) ?_
          refine ih P0 R (k + -1) w68 hP0 (by omega) hS5 hf (fun q hq => hb q (by simp [hq])) (fun w9 h8 h9 => hfin w9 ?_ h9)
          rw [List.map_append, List.filter_append, List.map_cons, List.map_nil, List.filter_cons_of_neg (by simp [okF]; omega), List.filter_nil, List.append_nil]
          exact h8
    · refine x_aload_n C dX2_pullFolds_21 rfl ?_
      refine x_get C dX2_pullFolds_22 kfX2_15 hr.o rfl ?_
      refine x_iload_n C dX2_pullFolds_25 rfl ?_
      refine x_dup2 C dX2_pullFolds_26 rfl rfl ?_
      refine x_iald C dX2_pullFolds_27 hr.a2 (by omega) (by rw [hr.l2]; omega) ?_
      rw [e2]
      refine x_iconst C dX2_pullFolds_28 ⟨by decide, by decide⟩ ?_
      refine x_isub C dX2_pullFolds_29 (by first | (unfold iR; omega) | exact ⟨by omega, by omega⟩) ?_
      refine x_iast C dX2_pullFolds_30 hr.a2 (by omega) (by rw [hr.l2]; omega) ?_
      refine ab_S_A2 hr hf (by rw [List.length_set]; exact hr.l2) (fun w hr hf => ?_)
      refine x_aload_n C dX2_pullFolds_31 rfl ?_
      refine x_get C dX2_pullFolds_32 kfX2_18 hr.o rfl ?_
      refine x_iload_n C dX2_pullFolds_35 rfl ?_
      refine x_iald C dX2_pullFolds_36 hr.a3 (by omega) (by rw [hr.l3]; omega) ?_
      rw [e3]
      refine x_iload_n C dX2_pullFolds_37 rfl ?_
      refine x_icmp_le (tgt := 51) C dX2_pullFolds_38 (by decide) (fun c38 => ?_) (fun c38 => ?_)
      · have ed : dnF a r = (r.1 - 1, r.2.1, r.2.2) := by
          unfold dnF
          rw [if_pos (by omega), if_neg (by omega)]
        rw [smid1 _ P0 R r j2 _ (by omega)] at hr
        have hS3 : isSh w h sg (P0 ++ dnF a r :: R) hi mo wi nd tb := by
          rw [ed]
          exact ⟨j1, j2, j3, j4, j5, j6, by simpa using hr⟩
        have hS4 := hS3
        obtain ⟨j1, j2, j3, j4, j5, j6, hr⟩ := hS3
        have e2 := gmap_at (fun f : Int × Int × Int => f.1) P0 R (dnF a r) j2 (k := k) (by omega)
        have e3 := gmap_at (fun f : Int × Int × Int => f.2.1) P0 R (dnF a r) j3 (k := k) (by omega)
        refine x_aload_n C dX2_pullFolds_51 rfl ?_
        refine x_get C dX2_pullFolds_52 kfX2_15 hr.o rfl ?_
        refine x_iload_n C dX2_pullFolds_55 rfl ?_
        refine x_iald C dX2_pullFolds_56 hr.a2 (by omega) (by rw [hr.l2]; omega) ?_
        rw [e2]
        refine x_aload_n C dX2_pullFolds_57 rfl ?_
        refine x_get C dX2_pullFolds_58 kfX2_18 hr.o rfl ?_
        refine x_iload_n C dX2_pullFolds_61 rfl ?_
        refine x_iald C dX2_pullFolds_62 hr.a3 (by omega) (by rw [hr.l3]; omega) ?_
        rw [e3]
        refine x_icmp_lt (tgt := 71) C dX2_pullFolds_63 (by decide) (fun c63 => ?_) (fun c63 => ?_)
        · refine s_inc3_2 C dX2_pullFolds_71 rfl (by first | (unfold iR; omega) | exact ⟨by omega, by omega⟩) ?_
          refine x_goto (tgt := 7) C dX2_pullFolds_74 (by decide) ?_
          refine ih P0 (dnF a r :: R) (k + -1) w hP0 (by omega) hS4 hf (fun q hq => hb q (by simp [hq])) (fun w9 h8 h9 => hfin w9 ?_ h9)
          rw [List.map_append, List.filter_append, List.map_cons, List.map_nil, List.filter_cons_of_pos (by simp [okF]; omega), List.filter_nil, List.append_assoc, List.singleton_append]
          exact h8
        · refine x_aload_n C dX2_pullFolds_66 rfl ?_
          refine x_iload_n C dX2_pullFolds_67 rfl ?_
          refine y_v1 C dX2_pullFolds_68 kyX2_dropFold knX2_dropFold kmX2_81 hr.o (c_X2_dropFold l hS4 k) (by decide) (Nat.zero_le _) (Nat.zero_le _) (Nat.le_of_ble_eq_true rfl) (fun w68 q68 => ?_)
          obtain ⟨hS5, hf9⟩ := q68
          have hf := hf.tr hf9
          rw [dropI, if_pos (by simp; omega), show k.toNat = P0.length by omega, erase_at] at hS5
          refine s_inc3_2 C dX2_pullFolds_71 rfl (by first | (unfold iR; omega) | exact ⟨by omega, by omega⟩) ?_
          refine x_goto (tgt := 7) C dX2_pullFolds_74 (by decide) ?_
          refine ih P0 R (k + -1) w68 hP0 (by omega) hS5 hf (fun q hq => hb q (by simp [hq])) (fun w9 h8 h9 => hfin w9 ?_ h9)
          rw [List.map_append, List.filter_append, List.map_cons, List.map_nil, List.filter_cons_of_neg (by simp [okF]; omega), List.filter_nil, List.append_nil]
          exact h8
      · refine x_aload_n C dX2_pullFolds_41 rfl ?_
        refine x_get C dX2_pullFolds_42 kfX2_18 hr.o rfl ?_
        refine x_iload_n C dX2_pullFolds_45 rfl ?_
        refine x_dup2 C dX2_pullFolds_46 rfl rfl ?_
        refine x_iald C dX2_pullFolds_47 hr.a3 (by omega) (by rw [hr.l3]; omega) ?_
        rw [e3]
        refine x_iconst C dX2_pullFolds_48 ⟨by decide, by decide⟩ ?_
        refine x_isub C dX2_pullFolds_49 (by first | (unfold iR; omega) | exact ⟨by omega, by omega⟩) ?_
        refine x_iast C dX2_pullFolds_50 hr.a3 (by omega) (by rw [hr.l3]; omega) ?_
        refine ab_S_A3 hr hf (by rw [List.length_set]; exact hr.l3) (fun w hr hf => ?_)
        have ed : dnF a r = (r.1 - 1, r.2.1 - 1, r.2.2) := by
          unfold dnF
          rw [if_pos (by omega), if_pos (by omega)]
        rw [smid1 _ P0 R r j2 _ (by omega)] at hr
        rw [smid1 _ P0 R r j3 _ (by omega)] at hr
        have hS3 : isSh w h sg (P0 ++ dnF a r :: R) hi mo wi nd tb := by
          rw [ed]
          exact ⟨j1, j2, j3, j4, j5, j6, by simpa using hr⟩
        have hS4 := hS3
        obtain ⟨j1, j2, j3, j4, j5, j6, hr⟩ := hS3
        have e2 := gmap_at (fun f : Int × Int × Int => f.1) P0 R (dnF a r) j2 (k := k) (by omega)
        have e3 := gmap_at (fun f : Int × Int × Int => f.2.1) P0 R (dnF a r) j3 (k := k) (by omega)
        refine x_aload_n C dX2_pullFolds_51 rfl ?_
        refine x_get C dX2_pullFolds_52 kfX2_15 hr.o rfl ?_
        refine x_iload_n C dX2_pullFolds_55 rfl ?_
        refine x_iald C dX2_pullFolds_56 hr.a2 (by omega) (by rw [hr.l2]; omega) ?_
        rw [e2]
        refine x_aload_n C dX2_pullFolds_57 rfl ?_
        refine x_get C dX2_pullFolds_58 kfX2_18 hr.o rfl ?_
        refine x_iload_n C dX2_pullFolds_61 rfl ?_
        refine x_iald C dX2_pullFolds_62 hr.a3 (by omega) (by rw [hr.l3]; omega) ?_
        rw [e3]
        refine x_icmp_lt (tgt := 71) C dX2_pullFolds_63 (by decide) (fun c63 => ?_) (fun c63 => ?_)
        · refine s_inc3_2 C dX2_pullFolds_71 rfl (by first | (unfold iR; omega) | exact ⟨by omega, by omega⟩) ?_
          refine x_goto (tgt := 7) C dX2_pullFolds_74 (by decide) ?_
          refine ih P0 (dnF a r :: R) (k + -1) w hP0 (by omega) hS4 hf (fun q hq => hb q (by simp [hq])) (fun w9 h8 h9 => hfin w9 ?_ h9)
          rw [List.map_append, List.filter_append, List.map_cons, List.map_nil, List.filter_cons_of_pos (by simp [okF]; omega), List.filter_nil, List.append_assoc, List.singleton_append]
          exact h8
        · refine x_aload_n C dX2_pullFolds_66 rfl ?_
          refine x_iload_n C dX2_pullFolds_67 rfl ?_
          refine y_v1 C dX2_pullFolds_68 kyX2_dropFold knX2_dropFold kmX2_81 hr.o (c_X2_dropFold l hS4 k) (by decide) (Nat.zero_le _) (Nat.zero_le _) (Nat.le_of_ble_eq_true rfl) (fun w68 q68 => ?_)
          obtain ⟨hS5, hf9⟩ := q68
          have hf := hf.tr hf9
          rw [dropI, if_pos (by simp; omega), show k.toNat = P0.length by omega, erase_at] at hS5
          refine s_inc3_2 C dX2_pullFolds_71 rfl (by first | (unfold iR; omega) | exact ⟨by omega, by omega⟩) ?_
          refine x_goto (tgt := 7) C dX2_pullFolds_74 (by decide) ?_
          refine ih P0 R (k + -1) w68 hP0 (by omega) hS5 hf (fun q hq => hb q (by simp [hq])) (fun w9 h8 h9 => hfin w9 ?_ h9)
          rw [List.map_append, List.filter_append, List.map_cons, List.map_nil, List.filter_cons_of_neg (by simp [okF]; omega), List.filter_nil, List.append_nil]
          exact h8

set_option maxHeartbeats 4000000 in
set_option maxRecDepth 100000 in
theorem c_X2_pullFolds (l : Launch) {w : mW} {h : Nat} {sg : List Int} {fo : List (Int × Int × Int)} {hi : List (Int × Int)} {mo wi nd tb : Int} (hS : isSh w h sg fo hi mo wi nd tb) (a : Int) (hF : smF fo) : Cv l yX2_pullFolds cX2_pullFolds 3 2 [vr h, vi a] w (fun w' => isSh w' h sg ((fo.map (dnF a)).filter okF) hi mo wi nd tb ∧ frR w w' h (h + 6)) := by
  refine Cv.of (ml := [some (vr h), some (vi a), none]) kyX2_pullFolds rfl (Nat.le_of_ble_eq_true rfl) rfl ?_
  intro t n C hQ
  have hf : frR w w h (h + 6) := frR.rf
  have hS2 := hS
  have hlen := hS.len
  obtain ⟨j1, j2, j3, j4, j5, j6, hr⟩ := hS
  refine x_aload_n C dX2_pullFolds_0 rfl ?_
  refine x_get C dX2_pullFolds_1 kfX2_35 hr.o rfl ?_
  refine x_iconst C dX2_pullFolds_4 ⟨by decide, by decide⟩ ?_
  refine x_isub C dX2_pullFolds_5 (by first | (unfold iR; omega) | exact ⟨by omega, by omega⟩) ?_
  refine s_ist3_2 C dX2_pullFolds_6 rfl ?_
  exact lp_X2_pullFolds a C hQ fo.length fo [] (fo.length - 1) w rfl rfl (by simpa using hS2) hf hF (fun w9 h8 h9 => ⟨by simpa using h8, h9⟩)

set_option maxHeartbeats 4000000 in
set_option maxRecDepth 100000 in
theorem lp_X2_pullHints {t : TX} {l : Launch} {n0 : Nat} {w0 : mW} {h : Nat} {sg : List Int} {fo : List (Int × Int × Int)} {mo wi nd tb : Int} (a : Int) (C : Cb t l cX2_pullHints RX2 3 none 2 0 0) : ∀ (R P : List (Int × Int)) (k : Int) (w : mW), isSh w h sg fo (P ++ R) mo wi nd tb → frR w0 w h (h + 6) → k = P.length → smH R → (∀ (k : Int) (w : mW), isSh w h sg fo (P ++ R.map (dnH a)) mo wi nd tb → frR w0 w h (h + 6) → J t 0 0 55 [some (vr h), some (vi a), some (vi k)] [] n0 w) → J t 0 0 21 [some (vr h), some (vi a), some (vi k)] [] n0 w := by
  intro R
  induction R with
  | nil =>
    intro P k w hS hf hk hb kx
    obtain ⟨j1, j2, j3, j4, j5, j6, hr⟩ := hS
    have l1 := hr.l1
    have l2 := hr.l2
    have l3 := hr.l3
    have l4 := hr.l4
    have l5 := hr.l5
    have l6 := hr.l6
    simp only [List.length_append, List.length_map] at l1 l2 l3 l4 l5 l6
    simp only [List.length_append, List.length_nil] at l1 l2 l3 l4 l5 l6
    have hS2 : isSh w h sg fo (P ++ []) mo wi nd tb := ⟨j1, j2, j3, j4, j5, j6, hr⟩
    refine x_iload_n C dX2_pullHints_21 rfl ?_
    refine x_aload_n C dX2_pullHints_22 rfl ?_
    refine x_get C dX2_pullHints_23 kfX2_38 hr.o rfl ?_
    refine x_icmp_ge (tgt := 55) C dX2_pullHints_26 (by decide) (fun c26 => ?_) (fun c26 => ?_)
    · exact kx k w (by simpa using hS2) hf
    · simp only [List.length_append, List.length_nil] at *
      omega
  | cons r R ih =>
    intro P k w hS hf hk hb kx
    obtain ⟨j1, j2, j3, j4, j5, j6, hr⟩ := hS
    have l1 := hr.l1
    have l2 := hr.l2
    have l3 := hr.l3
    have l4 := hr.l4
    have l5 := hr.l5
    have l6 := hr.l6
    simp only [List.length_append, List.length_map] at l1 l2 l3 l4 l5 l6
    simp only [List.length_append, List.length_cons] at l1 l2 l3 l4 l5 l6
    have hbr := hb r List.mem_cons_self
    have e5 : ((P ++ r :: R).map (fun f => f.1) ++ j5).getD k.toNat 0 = r.1 := gmap_at _ P R r j5 hk
    refine x_iload_n C dX2_pullHints_21 rfl ?_
    refine x_aload_n C dX2_pullHints_22 rfl ?_
    refine x_get C dX2_pullHints_23 kfX2_38 hr.o rfl ?_
    refine x_icmp_ge (tgt := 55) C dX2_pullHints_26 (by decide) (fun c26 => ?_) (fun c26 => ?_)
    · simp only [List.length_append, List.length_cons] at *
      omega
    · refine x_aload_n C dX2_pullHints_29 rfl ?_
      refine x_get C dX2_pullHints_30 kfX2_25 hr.o rfl ?_
      refine x_iload_n C dX2_pullHints_33 rfl ?_
      refine x_iald C dX2_pullHints_34 hr.a5 (by omega) (by rw [hr.l5]; omega) ?_
      rw [e5]
      refine x_iload_n C dX2_pullHints_35 rfl ?_
      refine x_icmp_le (tgt := 49) C dX2_pullHints_36 (by decide) (fun c36 => ?_) (fun c36 => ?_)
      · refine s_inc3_2 C dX2_pullHints_49 rfl (by first | (unfold iR; omega) | exact ⟨by omega, by omega⟩) ?_
        refine x_goto (tgt := 21) C dX2_pullHints_52 (by decide) ?_
        have eu : dnH a r = (r.1, r.2) := by
          unfold dnH
          rw [if_neg (by omega)]
        refine ih (P ++ [dnH a r]) (k + 1) w ⟨j1, j2, j3, j4, j5, j6, ?_⟩ hf (by simp; omega) (fun q hq => hb q (List.mem_cons_of_mem _ hq)) (fun k9 w9 h8 h9 => kx k9 w9 (by simpa using h8) h9)
        rw [eu]
        simpa using hr
      · refine x_aload_n C dX2_pullHints_39 rfl ?_
        refine x_get C dX2_pullHints_40 kfX2_25 hr.o rfl ?_
        refine x_iload_n C dX2_pullHints_43 rfl ?_
        refine x_dup2 C dX2_pullHints_44 rfl rfl ?_
        refine x_iald C dX2_pullHints_45 hr.a5 (by omega) (by rw [hr.l5]; omega) ?_
        rw [e5]
        refine x_iconst C dX2_pullHints_46 ⟨by decide, by decide⟩ ?_
        refine x_isub C dX2_pullHints_47 (by first | (unfold iR; omega) | exact ⟨by omega, by omega⟩) ?_
        refine x_iast C dX2_pullHints_48 hr.a5 (by omega) (by rw [hr.l5]; omega) ?_
        refine ab_S_A5 hr hf (by rw [List.length_set]; exact hr.l5) (fun w hr hf => ?_)
        refine s_inc3_2 C dX2_pullHints_49 rfl (by first | (unfold iR; omega) | exact ⟨by omega, by omega⟩) ?_
        refine x_goto (tgt := 21) C dX2_pullHints_52 (by decide) ?_
        have eu : dnH a r = (r.1 - 1, r.2) := by
          unfold dnH
          rw [if_pos (by omega)]
        rw [mset_at _ P R r j5 _ (by omega)] at hr
        refine ih (P ++ [dnH a r]) (k + 1) w ⟨j1, j2, j3, j4, j5, j6, ?_⟩ hf (by simp; omega) (fun q hq => hb q (List.mem_cons_of_mem _ hq)) (fun k9 w9 h8 h9 => kx k9 w9 (by simpa using h8) h9)
        rw [eu]
        simpa using hr

theorem dropI_mem {α : Type} {l : List α} {a : Int} {x : α} (h : x ∈ dropI l a) : x ∈ l := by
  unfold dropI at h
  split at h
  · exact List.mem_of_mem_eraseIdx h
  · exact h
theorem hiCut_mem {a : Int} {hi : List (Int × Int)} {x : Int × Int} (h : x ∈ hiCut a hi) : x ∈ hi := by
  unfold hiCut at h
  split at h
  · exact dropI_mem h
  · exact h

set_option maxHeartbeats 4000000 in
set_option maxRecDepth 100000 in
theorem c_X2_pullHints (l : Launch) {w : mW} {h : Nat} {sg : List Int} {fo : List (Int × Int × Int)} {hi : List (Int × Int)} {mo wi nd tb : Int} (hS : isSh w h sg fo hi mo wi nd tb) (a : Int) (hH : smH hi) (ha : 0 ≤ a ∧ a ≤ 100) : Cv l yX2_pullHints cX2_pullHints 3 2 [vr h, vi a] w (fun w' => isSh w' h sg fo ((hiCut a hi).map (dnH a)) mo wi nd tb ∧ frR w w' h (h + 6)) := by
  refine Cv.of (ml := [some (vr h), some (vi a), none]) kyX2_pullHints rfl (Nat.le_of_ble_eq_true rfl) rfl ?_
  intro t n C hQ
  have hf : frR w w h (h + 6) := frR.rf
  have hS2 := hS
  have hlen := hS.len
  obtain ⟨j1, j2, j3, j4, j5, j6, hr⟩ := hS
  refine x_aload_n C dX2_pullHints_0 rfl ?_
  refine x_iload_n C dX2_pullHints_1 rfl ?_
  refine x_iconst C dX2_pullHints_2 ⟨by decide, by decide⟩ ?_
  refine x_iadd C dX2_pullHints_3 (by first | (unfold iR; omega) | exact ⟨by omega, by omega⟩) ?_
  refine y_p1 C dX2_pullHints_4 kyX2_hintAt knX2_hintAt kmX2_84 hr.o (c_X2_hintAt l hS2 (a + 1)) (by decide) (Nat.zero_le _) (Nat.zero_le _) (Nat.le_of_ble_eq_true rfl) (fun z4 q4 => ?_)
  subst q4
  refine x_if_lt (tgt := 19) C dX2_pullHints_7 (by decide) (fun c7 => ?_) (fun c7 => ?_)
  · refine x_iconst C dX2_pullHints_19 ⟨by decide, by decide⟩ ?_
    refine s_ist3_2 C dX2_pullHints_20 rfl ?_
    have hS3 : isSh w h sg fo (hiCut a hi) mo wi nd tb := by
      unfold hiCut
      first | (rw [if_pos (by omega)]; exact hS2) | (rw [if_neg (by omega)]; exact hS2)
    refine lp_X2_pullHints a C (hiCut a hi) [] 0 _ (by simpa using hS3) hf rfl (fun q hq => hH q (hiCut_mem hq)) (fun k w hS hf => ?_)
    refine x_vret C hQ dX2_pullHints_55 (Nat.le_refl _) (Nat.le_refl _) ?_
    exact ⟨rfl, rfl, by simpa using hS, hf⟩
  · refine x_aload_n C dX2_pullHints_10 rfl ?_
    refine x_aload_n C dX2_pullHints_11 rfl ?_
    refine x_iload_n C dX2_pullHints_12 rfl ?_
    refine y_p1 C dX2_pullHints_13 kyX2_hintAt knX2_hintAt kmX2_84 hr.o (c_X2_hintAt l hS2 a) (by decide) (Nat.zero_le _) (Nat.zero_le _) (Nat.le_of_ble_eq_true rfl) (fun z13 q13 => ?_)
    subst q13
    refine y_v1 C dX2_pullHints_16 kyX2_dropHint knX2_dropHint kmX2_88 hr.o (c_X2_dropHint l hS2 (fIdx (pH a) hi 0)) (by decide) (Nat.zero_le _) (Nat.zero_le _) (Nat.le_of_ble_eq_true rfl) (fun w16 q16 => ?_)
    obtain ⟨hS2, hf9⟩ := q16
    have hf := hf.tr hf9
    obtain ⟨j1, j2, j3, j4, j5, j6, hr⟩ := hS2
    have hS2 : isSh w16 h sg fo (dropI hi (fIdx (pH a) hi 0)) mo wi nd tb := ⟨j1, j2, j3, j4, j5, j6, hr⟩
    refine x_iconst C dX2_pullHints_19 ⟨by decide, by decide⟩ ?_
    refine s_ist3_2 C dX2_pullHints_20 rfl ?_
    have hS3 : isSh w16 h sg fo (hiCut a hi) mo wi nd tb := by
      unfold hiCut
      first | (rw [if_pos (by omega)]; exact hS2) | (rw [if_neg (by omega)]; exact hS2)
    refine lp_X2_pullHints a C (hiCut a hi) [] 0 _ (by simpa using hS3) hf rfl (fun q hq => hH q (hiCut_mem hq)) (fun k w hS hf => ?_)
    refine x_vret C hQ dX2_pullHints_55 (Nat.le_refl _) (Nat.le_refl _) ?_
    exact ⟨rfl, rfl, by simpa using hS, hf⟩

set_option maxHeartbeats 4000000 in
set_option maxRecDepth 100000 in
theorem lp_X2_takeOut {t : TX} {l : Launch} {n0 : Nat} {w0 : mW} {h : Nat} {n fc hc mo wi nd tb : Int} {A2 A3 A4 A5 A6 : List Int} {G J1 : List Int} (a : Int) (C : Cb t l cX2_takeOut RX2 3 none 3 0 0) (kx : ∀ (P : List Int) (c k : Int) (w : mW), P = G → rS w h n fc hc mo wi nd tb (P ++ c :: J1) A2 A3 A4 A5 A6 → frR w0 w h (h + 6) → J t 0 0 41 [some (vr h), some (vi a), some (vi k)] [] n0 w) : ∀ (R P : List Int) (c k : Int) (w : mW), k = P.length + 1 → rS w h n fc hc mo wi nd tb (P ++ c :: (R ++ J1)) A2 A3 A4 A5 A6 → frR w0 w h (h + 6) → P ++ R = G → n = P.length + 1 + R.length → J t 0 0 13 [some (vr h), some (vi a), some (vi k)] [] n0 w := by
  intro R
  induction R with
  | nil =>
    intro P c k w hk hr hf hG hn
    have lA := hr.l1
    simp only [List.length_append, List.length_cons, List.length_nil] at lA hn
    refine x_iload_n C dX2_takeOut_13 rfl ?_
    refine x_aload_n C dX2_takeOut_14 rfl ?_
    refine x_get C dX2_takeOut_15 kfX2_31 hr.o rfl ?_
    refine x_icmp_ge (tgt := 41) C dX2_takeOut_18 (by decide) (fun c18 => ?_) (fun c18 => ?_)
    · exact kx P c k w (by simpa using hG) (by simpa using hr) hf
    · omega
  | cons y R ih =>
    intro P c k w hk hr hf hG hn
    have lA := hr.l1
    simp only [List.length_append, List.length_cons] at lA hn
    have e1 : (P ++ c :: (y :: R ++ J1)).getD k.toNat 0 = y := by
      have h9 := gd_mid (P ++ [c]) y (R ++ J1) (i := k.toNat) (by simp; omega)
      simpa using h9
    refine x_iload_n C dX2_takeOut_13 rfl ?_
    refine x_aload_n C dX2_takeOut_14 rfl ?_
    refine x_get C dX2_takeOut_15 kfX2_31 hr.o rfl ?_
    refine x_icmp_ge (tgt := 41) C dX2_takeOut_18 (by decide) (fun c18 => ?_) (fun c18 => ?_)
    · omega
    · refine x_aload_n C dX2_takeOut_21 rfl ?_
      refine x_get C dX2_takeOut_22 kfX2_9 hr.o rfl ?_
      refine x_iload_n C dX2_takeOut_25 rfl ?_
      refine x_iconst C dX2_takeOut_26 ⟨by decide, by decide⟩ ?_
      refine x_isub C dX2_takeOut_27 (by first | (unfold iR; omega) | exact ⟨by omega, by omega⟩) ?_
      refine x_aload_n C dX2_takeOut_28 rfl ?_
      refine x_get C dX2_takeOut_29 kfX2_9 hr.o rfl ?_
      refine x_iload_n C dX2_takeOut_32 rfl ?_
      refine x_iald C dX2_takeOut_33 hr.a1 (by omega) (by rw [hr.l1]; omega) ?_
      rw [e1]
      refine x_iast C dX2_takeOut_34 hr.a1 (by omega) (by rw [hr.l1]; omega) ?_
      refine ab_S_A1 hr hf (by rw [List.length_set]; exact hr.l1) (fun w hr hf => ?_)
      refine s_inc3_2 C dX2_takeOut_35 rfl (by first | (unfold iR; omega) | exact ⟨by omega, by omega⟩) ?_
      refine x_goto (tgt := 13) C dX2_takeOut_38 (by decide) ?_
      refine ih (P ++ [y]) y (k + 1) w (by simp; omega) ?_ hf (by rw [← hG]; simp) (by simp; omega)
      rw [set_mid P c y (y :: R ++ J1) (by omega)] at hr
      simpa using hr

set_option maxHeartbeats 4000000 in
set_option maxRecDepth 100000 in
theorem c_X2_takeOut (l : Launch) {w : mW} {h : Nat} {sg : List Int} {fo : List (Int × Int × Int)} {hi : List (Int × Int)} {mo wi nd tb : Int} (hS : isSh w h sg fo hi mo wi nd tb) (a : Int) (hF : smF fo) (hH : smH hi) : Cv l yX2_takeOut cX2_takeOut 3 3 [vr h, vi a] w (fun w' => isT w' h (delS (sg, fo, hi) a) mo wi nd tb ∧ frR w w' h (h + 6)) := by
  refine Cv.of (ml := [some (vr h), some (vi a), none]) kyX2_takeOut rfl (Nat.le_of_ble_eq_true rfl) rfl ?_
  intro t n C hQ
  have hf : frR w w h (h + 6) := frR.rf
  have hS2 := hS
  obtain ⟨j1, j2, j3, j4, j5, j6, hr⟩ := hS
  have l1 := hr.l1
  have l2 := hr.l2
  have l3 := hr.l3
  have l4 := hr.l4
  have l5 := hr.l5
  have l6 := hr.l6
  simp only [List.length_append, List.length_map] at l1 l2 l3 l4 l5 l6
  refine x_aload_n C dX2_takeOut_0 rfl ?_
  refine x_iload_n C dX2_takeOut_1 rfl ?_
  refine y_p1 C dX2_takeOut_2 kyX2_hasSign knX2_hasSign kmX2_63 hr.o (c_X2_hasSign l hr a) (by decide) (Nat.zero_le _) (Nat.zero_le _) (Nat.le_of_ble_eq_true rfl) (fun z2 q2 => ?_)
  refine x_if_ne (tgt := 9) C dX2_takeOut_5 (by decide) (fun c5 => ?_) (fun c5 => ?_)
  · obtain ⟨P, x, R, rfl, hP⟩ := spl sg a.toNat (by omega)
    have ea : a = P.length := by omega
    simp only [List.length_append, List.length_cons] at l1
    have hln : (P ++ x :: R).length ≤ 40 := by simp only [List.length_append, List.length_cons]; omega
    refine x_iload_n C dX2_takeOut_9 rfl ?_
    refine x_iconst C dX2_takeOut_10 ⟨by decide, by decide⟩ ?_
    refine x_iadd C dX2_takeOut_11 (by first | (unfold iR; omega) | exact ⟨by omega, by omega⟩) ?_
    refine s_ist3_2 C dX2_takeOut_12 rfl ?_
    refine lp_X2_takeOut (n := (P ++ x :: R).length) (G := P ++ R) (J1 := j1) a C (fun P9 c9 k9 w hG9 hr hf => ?_) R P x (a + 1) w (by omega) (by simpa only [List.append_assoc, List.cons_append] using hr) hf rfl (by simp only [List.length_append, List.length_cons]; omega)
    subst hG9
    refine x_aload_n C dX2_takeOut_41 rfl ?_
    refine x_dup C dX2_takeOut_42 rfl ?_
    refine x_get C dX2_takeOut_43 kfX2_31 hr.o rfl ?_
    refine x_iconst C dX2_takeOut_46 ⟨by decide, by decide⟩ ?_
    refine x_isub C dX2_takeOut_47 (by first | (unfold iR; omega) | exact ⟨by omega, by omega⟩) ?_
    refine x_put C dX2_takeOut_48 kfX2_31 kw_2_1 rfl rfl hr.o (Nat.le_of_ble_eq_true rfl) ?_
    refine ab_S_n hr hf (fun w hr hf => ?_)
    have hS3 : isSh w h (P ++ R) fo hi mo wi nd tb := ⟨c9 :: j1, j2, j3, j4, j5, j6, by simpa [show ((P.length : Int) + ((R.length : Int) + 1) - 1) = (P.length : Int) + R.length by omega] using hr⟩
    refine x_aload_n C dX2_takeOut_51 rfl ?_
    refine x_iload_n C dX2_takeOut_52 rfl ?_
    refine y_v1 C dX2_takeOut_53 kyX2_pullFolds knX2_pullFolds kmX2_74 hr.o (c_X2_pullFolds l hS3 a hF) (by decide) (Nat.zero_le _) (Nat.zero_le _) (Nat.le_of_ble_eq_true rfl) (fun w53 q53 => ?_)
    obtain ⟨hS3, hf9⟩ := q53
    have hf := hf.tr hf9
    obtain ⟨j1, j2, j3, j4, j5, j6, hr⟩ := hS3
    have hS3 : isSh w53 h (P ++ R) ((fo.map (dnF a)).filter okF) hi mo wi nd tb := ⟨j1, j2, j3, j4, j5, j6, hr⟩
    refine x_aload_n C dX2_takeOut_56 rfl ?_
    refine x_iload_n C dX2_takeOut_57 rfl ?_
    refine y_v1 C dX2_takeOut_58 kyX2_pullHints knX2_pullHints kmX2_78 hr.o (c_X2_pullHints l hS3 a hH (by omega)) (by decide) (Nat.zero_le _) (Nat.zero_le _) (Nat.le_of_ble_eq_true rfl) (fun w58 q58 => ?_)
    obtain ⟨hS3, hf9⟩ := q58
    have hf := hf.tr hf9
    refine x_vret C hQ dX2_takeOut_61 (Nat.le_refl _) (Nat.le_refl _) ?_
    refine ⟨rfl, rfl, ?_, hf⟩
    unfold isT
    rw [delS, if_pos (by simp only [List.length_append, List.length_cons]; omega)]
    simp only
    rw [show a.toNat = P.length by omega, erase_at]
    exact hS3
  · refine x_vret C hQ dX2_takeOut_8 (Nat.le_refl _) (Nat.le_refl _) ?_
    exact ⟨rfl, rfl, by unfold isT; rw [delS, if_neg (by simp only; omega)]; exact hS2, hf⟩

set_option maxHeartbeats 4000000 in
set_option maxRecDepth 100000 in
theorem c_X2_live (l : Launch) {w : mW} {h : Nat} {sg : List Int} {fo : List (Int × Int × Int)} {hi : List (Int × Int)} {mo wi nd tb : Int} (hS : isSh w h sg fo hi mo wi nd tb) (d : Int) (hd0 : 0 ≤ d) (hF : smF fo) (hH : smH hi) : Cv l yX2_live cX2_live 3 4 [vr h, vi d] w (fun w' => isT w' h (liveS (sg, fo, hi) d) mo wi nd tb ∧ frR w w' h (h + 6)) := by
  refine Cv.of (ml := [some (vr h), some (vi d), none]) kyX2_live rfl (Nat.le_of_ble_eq_true rfl) rfl ?_
  intro t n C hQ
  have hf : frR w w h (h + 6) := frR.rf
  have hS2 := hS
  have hlen := hS.len
  obtain ⟨j1, j2, j3, j4, j5, j6, hr⟩ := hS
  refine x_iload_n C dX2_live_0 rfl ?_
  refine x_iconst C dX2_live_1 ⟨by decide, by decide⟩ ?_
  refine x_irem C dX2_live_2 (by omega) (by omega) ?_
  refine s_ist3_2 C dX2_live_3 rfl ?_
  refine x_iload_n C dX2_live_4 rfl ?_
  refine x_iconst C dX2_live_5 ⟨by decide, by decide⟩ ?_
  refine x_icmp_ne (tgt := 28) C dX2_live_6 (by decide) (fun c6 => ?_) (fun c6 => ?_)
  · refine x_iload_n C dX2_live_28 rfl ?_
    refine x_iconst C dX2_live_29 ⟨by decide, by decide⟩ ?_
    refine x_icmp_ne (tgt := 51) C dX2_live_30 (by decide) (fun c30 => ?_) (fun c30 => ?_)
    · refine x_aload_n C dX2_live_51 rfl ?_
      refine x_iload_n C dX2_live_52 rfl ?_
      refine x_sipush C dX2_live_53 ⟨by decide, by decide⟩ ?_
      refine x_idiv C dX2_live_56 (by omega) (by omega) ?_
      refine x_aload_n C dX2_live_57 rfl ?_
      refine x_get C dX2_live_58 kfX2_31 hr.o rfl ?_
      refine x_iconst C dX2_live_61 ⟨by decide, by decide⟩ ?_
      refine x_iadd C dX2_live_62 (by first | (unfold iR; omega) | exact ⟨by omega, by omega⟩) ?_
      refine z_p2 C dX2_live_63 kyX2_reduced ksX2_reduced kmX2_106 (c_X2_reduced l (d / 256) (sg.length + 1) (by omega)) (by decide) (Nat.zero_le _) (Nat.zero_le _) (Nat.le_of_ble_eq_true rfl) (fun z63 q63 => ?_)
      have ez : z63 = redI (d / 256) (sg.length + 1) := by
        unfold redI
        split
        · exact q63.1 (by assumption)
        · exact q63.2 (by omega)
      subst ez
      refine x_iload_n C dX2_live_66 rfl ?_
      refine x_bipush C dX2_live_67 ⟨by decide, by decide⟩ ?_
      refine x_idiv C dX2_live_69 (by omega) (by omega) ?_
      refine x_bipush C dX2_live_70 ⟨by decide, by decide⟩ ?_
      refine x_irem C dX2_live_72 (by omega) (by omega) ?_
      refine y_v2 C dX2_live_73 kyX2_putIn knX2_putIn kmX2_116 hr.o (c_X2_putIn l hS2 (redI (d / 256) (sg.length + 1)) (d / 8 % 28) hF hH) (by decide) (Nat.zero_le _) (Nat.zero_le _) (Nat.le_of_ble_eq_true rfl) (fun w73 q73 => ?_)
      have hE := q73
      refine x_vret C hQ dX2_live_76 (Nat.le_refl _) (Nat.le_refl _) ?_
      exact ⟨rfl, rfl, by unfold liveS; rw [if_neg (by omega), if_neg (by omega)]; exact hE.1, hE.2⟩
    · refine x_aload_n C dX2_live_33 rfl ?_
      refine x_iload_n C dX2_live_34 rfl ?_
      refine x_bipush C dX2_live_35 ⟨by decide, by decide⟩ ?_
      refine x_idiv C dX2_live_37 (by omega) (by omega) ?_
      refine x_aload_n C dX2_live_38 rfl ?_
      refine x_get C dX2_live_39 kfX2_35 hr.o rfl ?_
      refine z_p2 C dX2_live_42 kyX2_reduced ksX2_reduced kmX2_106 (c_X2_reduced l (d / 8) fo.length (by omega)) (by decide) (Nat.zero_le _) (Nat.zero_le _) (Nat.le_of_ble_eq_true rfl) (fun z42 q42 => ?_)
      have ez : z42 = redI (d / 8) fo.length := by
        unfold redI
        split
        · exact q42.1 (by assumption)
        · exact q42.2 (by omega)
      subst ez
      refine y_v1 C dX2_live_45 kyX2_turn knX2_turn kmX2_113 hr.o (c_X2_turn l hS2 (redI (d / 8) fo.length)) (by decide) (Nat.zero_le _) (Nat.zero_le _) (Nat.le_of_ble_eq_true rfl) (fun w45 q45 => ?_)
      have hE := q45
      refine x_goto (tgt := 76) C dX2_live_48 (by decide) ?_
      refine x_vret C hQ dX2_live_76 (Nat.le_refl _) (Nat.le_refl _) ?_
      exact ⟨rfl, rfl, by unfold liveS; rw [if_neg (by omega), if_pos (by omega)]; exact hE.1, hE.2⟩
  · refine x_aload_n C dX2_live_9 rfl ?_
    refine x_iload_n C dX2_live_10 rfl ?_
    refine x_sipush C dX2_live_11 ⟨by decide, by decide⟩ ?_
    refine x_idiv C dX2_live_14 (by omega) (by omega) ?_
    refine x_aload_n C dX2_live_15 rfl ?_
    refine x_get C dX2_live_16 kfX2_31 hr.o rfl ?_
    refine z_p2 C dX2_live_19 kyX2_reduced ksX2_reduced kmX2_106 (c_X2_reduced l (d / 256) sg.length (by omega)) (by decide) (Nat.zero_le _) (Nat.zero_le _) (Nat.le_of_ble_eq_true rfl) (fun z19 q19 => ?_)
    have ez : z19 = redI (d / 256) sg.length := by
      unfold redI
      split
      · exact q19.1 (by assumption)
      · exact q19.2 (by omega)
    subst ez
    refine y_v1 C dX2_live_22 kyX2_takeOut knX2_takeOut kmX2_110 hr.o (c_X2_takeOut l hS2 (redI (d / 256) sg.length) hF hH) (by decide) (Nat.zero_le _) (Nat.zero_le _) (Nat.le_of_ble_eq_true rfl) (fun w22 q22 => ?_)
    have hE := q22
    refine x_goto (tgt := 76) C dX2_live_25 (by decide) ?_
    refine x_vret C hQ dX2_live_76 (Nat.le_refl _) (Nat.le_refl _) ?_
    exact ⟨rfl, rfl, by unfold liveS; rw [if_pos (by omega)]; exact hE.1, hE.2⟩
