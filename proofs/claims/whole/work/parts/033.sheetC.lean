/-! ===== DisplayMap.Sheet: signs put in and taken out ===== -/
abbrev mS : Type := List Int × List (Int × Int × Int) × List (Int × Int)
def isT (w : mW) (h : Nat) (T : mS) (mo wi nd tb : Int) : Prop := isSh w h T.1 T.2.1 T.2.2 mo wi nd tb
def insI (sg : List Int) (a s : Int) : List Int := sg.take a.toNat ++ s :: sg.drop a.toNat
def upF (a : Int) (q : Int × Int × Int) : Int × Int × Int := (if a ≤ q.1 then q.1 + 1 else q.1, if a < q.2.1 then q.2.1 + 1 else q.2.1, q.2.2)
def upH (a : Int) (q : Int × Int) : Int × Int := (if a ≤ q.1 then q.1 + 1 else q.1, q.2)
def dnF (a : Int) (q : Int × Int × Int) : Int × Int × Int := (if a < q.1 then q.1 - 1 else q.1, if a < q.2.1 then q.2.1 - 1 else q.2.1, q.2.2)
def dnH (a : Int) (q : Int × Int) : Int × Int := (if a < q.1 then q.1 - 1 else q.1, q.2)
def okF (q : Int × Int × Int) : Bool := decide (q.1 < q.2.1)
def hiCut (a : Int) (hi : List (Int × Int)) : List (Int × Int) := if 0 ≤ fIdx (pH (a + 1)) hi 0 then dropI hi (fIdx (pH a) hi 0) else hi
def putS (T : mS) (a s : Int) : mS := if (0 ≤ a ∧ a ≤ T.1.length) ∧ T.1.length < 40 then (insI T.1 a s, T.2.1.map (upF a), T.2.2.map (upH a)) else T
def delS (T : mS) (a : Int) : mS := if 0 ≤ a ∧ a < T.1.length then (T.1.eraseIdx a.toNat, (T.2.1.map (dnF a)).filter okF, (hiCut a T.2.2).map (dnH a)) else T
def redI (a b : Int) : Int := if 0 < b then a % b else -1
def liveS (T : mS) (d : Int) : mS := if d % 4 = 2 then delS T (redI (d / 256) T.1.length) else if d % 4 = 3 then (T.1, turnF T.2.1 (redI (d / 8) T.2.1.length), T.2.2) else putS T (redI (d / 256) (T.1.length + 1)) (d / 8 % 28)
/-- small numbers -/
def smF (fo : List (Int × Int × Int)) : Prop := ∀ q ∈ fo, (-1000 ≤ q.1 ∧ q.1 ≤ 1000) ∧ -1000 ≤ q.2.1 ∧ q.2.1 ≤ 1000
def smH (hi : List (Int × Int)) : Prop := ∀ q ∈ hi, -1000 ≤ q.1 ∧ q.1 ≤ 1000

set_option maxHeartbeats 4000000 in
set_option maxRecDepth 100000 in
theorem lp_X2_putIn_1 {t : TX} {l : Launch} {n0 : Nat} {w0 : mW} {h : Nat} {n fc hc mo wi nd tb : Int} {A2 A3 A4 A5 A6 : List Int} {G : List Int} (a s : Int) (ha : 0 ≤ a) (C : Cb t l cX2_putIn RX2 4 none 1 0 0) (kx : ∀ (P R : List Int) (c : Int) (w : mW), P.length = a.toNat → P ++ R = G → rS w h n fc hc mo wi nd tb (P ++ c :: R) A2 A3 A4 A5 A6 → frR w0 w h (h + 6) → J t 0 0 46 [some (vr h), some (vi a), some (vi s), some (vi a)] [] n0 w) : ∀ (m : Nat) (P R : List Int) (c k : Int) (w : mW), P.length = a.toNat + m → k = P.length → rS w h n fc hc mo wi nd tb (P ++ c :: R) A2 A3 A4 A5 A6 → frR w0 w h (h + 6) → P ++ R = G → k < 40 → J t 0 0 21 [some (vr h), some (vi a), some (vi s), some (vi k)] [] n0 w := by
  intro m
  induction m with
  | zero =>
    intro P R c k w hm hk hr hf hG hl
    have lA := hr.l1
    simp only [List.length_append, List.length_cons] at lA
    refine x_iload_n C dX2_putIn_21 rfl ?_
    refine x_iload_n C dX2_putIn_22 rfl ?_
    refine x_icmp_le (tgt := 46) C dX2_putIn_23 (by decide) (fun c23 => ?_) (fun c23 => ?_)
    · have ek : k = a := by omega
      rw [ek]
      exact kx P R c w (by omega) hG hr hf
    · omega
  | succ m ih =>
    intro P R c k w hm hk hr hf hG hl
    have lA := hr.l1
    simp only [List.length_append, List.length_cons] at lA
    obtain ⟨P0, y, rfl, hP0⟩ := snoc P (a.toNat + m) (by omega)
    simp only [List.length_append, List.length_cons, List.length_nil] at hk lA
    have e1 : (P0 ++ [y] ++ c :: R).getD (k - 1).toNat 0 = y := by
      rw [List.append_assoc, List.singleton_append]
      exact gd_mid P0 y (c :: R) (by omega)
    refine x_iload_n C dX2_putIn_21 rfl ?_
    refine x_iload_n C dX2_putIn_22 rfl ?_
    refine x_icmp_le (tgt := 46) C dX2_putIn_23 (by decide) (fun c23 => ?_) (fun c23 => ?_)
    · omega
    · refine x_aload_n C dX2_putIn_26 rfl ?_
      refine x_get C dX2_putIn_27 kfX2_9 hr.o rfl ?_
      refine x_iload_n C dX2_putIn_30 rfl ?_
      refine x_aload_n C dX2_putIn_31 rfl ?_
      refine x_get C dX2_putIn_32 kfX2_9 hr.o rfl ?_
      refine x_iload_n C dX2_putIn_35 rfl ?_
      refine x_iconst C dX2_putIn_36 ⟨by decide, by decide⟩ ?_
      refine x_isub C dX2_putIn_37 (by first | (unfold iR; omega) | exact ⟨by omega, by omega⟩) ?_
      refine x_iald C dX2_putIn_38 hr.a1 (by omega) (by rw [hr.l1]; omega) ?_
      rw [e1]
      refine x_iast C dX2_putIn_39 hr.a1 (by omega) (by rw [hr.l1]; omega) ?_
      refine ab_S_A1 hr hf (by rw [List.length_set]; exact hr.l1) (fun w hr hf => ?_)
      refine s_inc4_3 C dX2_putIn_40 rfl (by first | (unfold iR; omega) | exact ⟨by omega, by omega⟩) ?_
      refine x_goto (tgt := 21) C dX2_putIn_43 (by decide) ?_
      refine ih P0 (y :: R) y (k + -1) w hP0 (by omega) ?_ hf (by rw [← hG]; simp) (by omega)
      rw [set_mid (P0 ++ [y]) c y R (by simp; omega)] at hr
      simpa using hr

set_option maxHeartbeats 4000000 in
set_option maxRecDepth 100000 in
theorem lp_X2_putIn_2 {t : TX} {l : Launch} {n0 : Nat} {w0 : mW} {h : Nat} {sg : List Int} {hi : List (Int × Int)} {mo wi nd tb : Int} (a s : Int) (C : Cb t l cX2_putIn RX2 4 none 1 0 0) : ∀ (R P : List (Int × Int × Int)) (k : Int) (w : mW), isSh w h sg (P ++ R) hi mo wi nd tb → frR w0 w h (h + 6) → k = P.length → smF R → (∀ (k : Int) (w : mW), isSh w h sg (P ++ R.map (upF a)) hi mo wi nd tb → frR w0 w h (h + 6) → J t 0 0 119 [some (vr h), some (vi a), some (vi s), some (vi k)] [] n0 w) → J t 0 0 65 [some (vr h), some (vi a), some (vi s), some (vi k)] [] n0 w := by
  intro R
  induction R with
  | nil =>
    intro P k w hS hf hk hb kx
    obtain ⟨j1, j2, j3, j4, j5, j6, hr⟩ := hS
    have l1 := hr.l1
    have l2 := hr.l2
    have l3 := hr.l3
    have l4 := hr.l4
    have l5 := hr.l5
    have l6 := hr.l6
    simp only [List.length_append, List.length_map] at l1 l2 l3 l4 l5 l6
    simp only [List.length_append, List.length_nil] at l1 l2 l3 l4 l5 l6
    have hS2 : isSh w h sg (P ++ []) hi mo wi nd tb := ⟨j1, j2, j3, j4, j5, j6, hr⟩
    refine x_iload_n C dX2_putIn_65 rfl ?_
    refine x_aload_n C dX2_putIn_66 rfl ?_
    refine x_get C dX2_putIn_67 kfX2_35 hr.o rfl ?_
    refine x_icmp_ge (tgt := 119) C dX2_putIn_70 (by decide) (fun c70 => ?_) (fun c70 => ?_)
    · exact kx k w (by simpa using hS2) hf
    · simp only [List.length_append, List.length_nil] at *
      omega
  | cons r R ih =>
    intro P k w hS hf hk hb kx
    obtain ⟨j1, j2, j3, j4, j5, j6, hr⟩ := hS
    have l1 := hr.l1
    have l2 := hr.l2
    have l3 := hr.l3
    have l4 := hr.l4
    have l5 := hr.l5
    have l6 := hr.l6
    simp only [List.length_append, List.length_map] at l1 l2 l3 l4 l5 l6
    simp only [List.length_append, List.length_cons] at l1 l2 l3 l4 l5 l6
    have hbr := hb r List.mem_cons_self
    have e2 : ((P ++ r :: R).map (fun f => f.1) ++ j2).getD k.toNat 0 = r.1 := gmap_at _ P R r j2 hk
    have e3 : ((P ++ r :: R).map (fun f => f.2.1) ++ j3).getD k.toNat 0 = r.2.1 := gmap_at _ P R r j3 hk
    refine x_iload_n C dX2_putIn_65 rfl ?_
    refine x_aload_n C dX2_putIn_66 rfl ?_
    refine x_get C dX2_putIn_67 kfX2_35 hr.o rfl ?_
    refine x_icmp_ge (tgt := 119) C dX2_putIn_70 (by decide) (fun c70 => ?_) (fun c70 => ?_)
    · simp only [List.length_append, List.length_cons] at *
      omega
    · refine x_aload_n C dX2_putIn_73 rfl ?_
      refine x_get C dX2_putIn_74 kfX2_15 hr.o rfl ?_
      refine x_iload_n C dX2_putIn_77 rfl ?_
      refine x_iald C dX2_putIn_78 hr.a2 (by omega) (by rw [hr.l2]; omega) ?_
      rw [e2]
      refine x_iload_n C dX2_putIn_79 rfl ?_
      refine x_icmp_lt (tgt := 93) C dX2_putIn_80 (by decide) (fun c80 => ?_) (fun c80 => ?_)
      · refine x_aload_n C dX2_putIn_93 rfl ?_
        refine x_get C dX2_putIn_94 kfX2_18 hr.o rfl ?_
        refine x_iload_n C dX2_putIn_97 rfl ?_
        refine x_iald C dX2_putIn_98 hr.a3 (by omega) (by rw [hr.l3]; omega) ?_
        rw [e3]
        refine x_iload_n C dX2_putIn_99 rfl ?_
        refine x_icmp_le (tgt := 113) C dX2_putIn_100 (by decide) (fun c100 => ?_) (fun c100 => ?_)
        · refine s_inc4_3 C dX2_putIn_113 rfl (by first | (unfold iR; omega) | exact ⟨by omega, by omega⟩) ?_
          refine x_goto (tgt := 65) C dX2_putIn_116 (by decide) ?_
          have eu : upF a r = (r.1, r.2.1, r.2.2) := by
            unfold upF
            rw [if_neg (by omega), if_neg (by omega)]
          refine ih (P ++ [upF a r]) (k + 1) w ⟨j1, j2, j3, j4, j5, j6, ?_⟩ hf (by simp; omega) (fun q hq => hb q (List.mem_cons_of_mem _ hq)) (fun k9 w9 h8 h9 => kx k9 w9 (by simpa using h8) h9)
          rw [eu]
          simpa using hr
        · refine x_aload_n C dX2_putIn_103 rfl ?_
          refine x_get C dX2_putIn_104 kfX2_18 hr.o rfl ?_
          refine x_iload_n C dX2_putIn_107 rfl ?_
          refine x_dup2 C dX2_putIn_108 rfl rfl ?_
          refine x_iald C dX2_putIn_109 hr.a3 (by omega) (by rw [hr.l3]; omega) ?_
          rw [e3]
          refine x_iconst C dX2_putIn_110 ⟨by decide, by decide⟩ ?_
          refine x_iadd C dX2_putIn_111 (by first | (unfold iR; omega) | exact ⟨by omega, by omega⟩) ?_
          refine x_iast C dX2_putIn_112 hr.a3 (by omega) (by rw [hr.l3]; omega) ?_
          refine ab_S_A3 hr hf (by rw [List.length_set]; exact hr.l3) (fun w hr hf => ?_)
          refine s_inc4_3 C dX2_putIn_113 rfl (by first | (unfold iR; omega) | exact ⟨by omega, by omega⟩) ?_
          refine x_goto (tgt := 65) C dX2_putIn_116 (by decide) ?_
          have eu : upF a r = (r.1, r.2.1 + 1, r.2.2) := by
            unfold upF
            rw [if_neg (by omega), if_pos (by omega)]
          rw [mset_at _ P R r j3 _ (by omega)] at hr
          refine ih (P ++ [upF a r]) (k + 1) w ⟨j1, j2, j3, j4, j5, j6, ?_⟩ hf (by simp; omega) (fun q hq => hb q (List.mem_cons_of_mem _ hq)) (fun k9 w9 h8 h9 => kx k9 w9 (by simpa using h8) h9)
          rw [eu]
          simpa using hr
      · refine x_aload_n C dX2_putIn_83 rfl ?_
        refine x_get C dX2_putIn_84 kfX2_15 hr.o rfl ?_
        refine x_iload_n C dX2_putIn_87 rfl ?_
        refine x_dup2 C dX2_putIn_88 rfl rfl ?_
        refine x_iald C dX2_putIn_89 hr.a2 (by omega) (by rw [hr.l2]; omega) ?_
        rw [e2]
        refine x_iconst C dX2_putIn_90 ⟨by decide, by decide⟩ ?_
        refine x_iadd C dX2_putIn_91 (by first | (unfold iR; omega) | exact ⟨by omega, by omega⟩) ?_
        refine x_iast C dX2_putIn_92 hr.a2 (by omega) (by rw [hr.l2]; omega) ?_
        refine ab_S_A2 hr hf (by rw [List.length_set]; exact hr.l2) (fun w hr hf => ?_)
        refine x_aload_n C dX2_putIn_93 rfl ?_
        refine x_get C dX2_putIn_94 kfX2_18 hr.o rfl ?_
        refine x_iload_n C dX2_putIn_97 rfl ?_
        refine x_iald C dX2_putIn_98 hr.a3 (by omega) (by rw [hr.l3]; omega) ?_
        rw [e3]
        refine x_iload_n C dX2_putIn_99 rfl ?_
        refine x_icmp_le (tgt := 113) C dX2_putIn_100 (by decide) (fun c100 => ?_) (fun c100 => ?_)
        · refine s_inc4_3 C dX2_putIn_113 rfl (by first | (unfold iR; omega) | exact ⟨by omega, by omega⟩) ?_
          refine x_goto (tgt := 65) C dX2_putIn_116 (by decide) ?_
          have eu : upF a r = (r.1 + 1, r.2.1, r.2.2) := by
            unfold upF
            rw [if_pos (by omega), if_neg (by omega)]
          rw [mset_at _ P R r j2 _ (by omega)] at hr
          refine ih (P ++ [upF a r]) (k + 1) w ⟨j1, j2, j3, j4, j5, j6, ?_⟩ hf (by simp; omega) (fun q hq => hb q (List.mem_cons_of_mem _ hq)) (fun k9 w9 h8 h9 => kx k9 w9 (by simpa using h8) h9)
          rw [eu]
          simpa using hr
        · refine x_aload_n C dX2_putIn_103 rfl ?_
          refine x_get C dX2_putIn_104 kfX2_18 hr.o rfl ?_
          refine x_iload_n C dX2_putIn_107 rfl ?_
          refine x_dup2 C dX2_putIn_108 rfl rfl ?_
          refine x_iald C dX2_putIn_109 hr.a3 (by omega) (by rw [hr.l3]; omega) ?_
          rw [e3]
          refine x_iconst C dX2_putIn_110 ⟨by decide, by decide⟩ ?_
          refine x_iadd C dX2_putIn_111 (by first | (unfold iR; omega) | exact ⟨by omega, by omega⟩) ?_
          refine x_iast C dX2_putIn_112 hr.a3 (by omega) (by rw [hr.l3]; omega) ?_
          refine ab_S_A3 hr hf (by rw [List.length_set]; exact hr.l3) (fun w hr hf => ?_)
          refine s_inc4_3 C dX2_putIn_113 rfl (by first | (unfold iR; omega) | exact ⟨by omega, by omega⟩) ?_
          refine x_goto (tgt := 65) C dX2_putIn_116 (by decide) ?_
          have eu : upF a r = (r.1 + 1, r.2.1 + 1, r.2.2) := by
            unfold upF
            rw [if_pos (by omega), if_pos (by omega)]
          rw [mset_at _ P R r j2 _ (by omega)] at hr
          rw [mset_at _ P R r j3 _ (by omega)] at hr
          refine ih (P ++ [upF a r]) (k + 1) w ⟨j1, j2, j3, j4, j5, j6, ?_⟩ hf (by simp; omega) (fun q hq => hb q (List.mem_cons_of_mem _ hq)) (fun k9 w9 h8 h9 => kx k9 w9 (by simpa using h8) h9)
          rw [eu]
          simpa using hr

set_option maxHeartbeats 4000000 in
set_option maxRecDepth 100000 in
theorem lp_X2_putIn_3 {t : TX} {l : Launch} {n0 : Nat} {w0 : mW} {h : Nat} {sg : List Int} {fo : List (Int × Int × Int)} {mo wi nd tb : Int} (a s : Int) (C : Cb t l cX2_putIn RX2 4 none 1 0 0) : ∀ (R P : List (Int × Int)) (k : Int) (w : mW), isSh w h sg fo (P ++ R) mo wi nd tb → frR w0 w h (h + 6) → k = P.length → smH R → (∀ (k : Int) (w : mW), isSh w h sg fo (P ++ R.map (upH a)) mo wi nd tb → frR w0 w h (h + 6) → J t 0 0 155 [some (vr h), some (vi a), some (vi s), some (vi k)] [] n0 w) → J t 0 0 121 [some (vr h), some (vi a), some (vi s), some (vi k)] [] n0 w := by
  intro R
  induction R with
  | nil =>
    intro P k w hS hf hk hb kx
    obtain ⟨j1, j2, j3, j4, j5, j6, hr⟩ := hS
    have l1 := hr.l1
    have l2 := hr.l2
    have l3 := hr.l3
    have l4 := hr.l4
    have l5 := hr.l5
    have l6 := hr.l6
    simp only [List.length_append, List.length_map] at l1 l2 l3 l4 l5 l6
    simp only [List.length_append, List.length_nil] at l1 l2 l3 l4 l5 l6
    have hS2 : isSh w h sg fo (P ++ []) mo wi nd tb := ⟨j1, j2, j3, j4, j5, j6, hr⟩
    refine x_iload_n C dX2_putIn_121 rfl ?_
    refine x_aload_n C dX2_putIn_122 rfl ?_
    refine x_get C dX2_putIn_123 kfX2_38 hr.o rfl ?_
    refine x_icmp_ge (tgt := 155) C dX2_putIn_126 (by decide) (fun c126 => ?_) (fun c126 => ?_)
    · exact kx k w (by simpa using hS2) hf
    · simp only [List.length_append, List.length_nil] at *
      omega
  | cons r R ih =>
    intro P k w hS hf hk hb kx
    obtain ⟨j1, j2, j3, j4, j5, j6, hr⟩ := hS
    have l1 := hr.l1
    have l2 := hr.l2
    have l3 := hr.l3
    have l4 := hr.l4
    have l5 := hr.l5
    have l6 := hr.l6
    simp only [List.length_append, List.length_map] at l1 l2 l3 l4 l5 l6
    simp only [List.length_append, List.length_cons] at l1 l2 l3 l4 l5 l6
    have hbr := hb r List.mem_cons_self
    have e5 : ((P ++ r :: R).map (fun f => f.1) ++ j5).getD k.toNat 0 = r.1 := gmap_at _ P R r j5 hk
    refine x_iload_n C dX2_putIn_121 rfl ?_
    refine x_aload_n C dX2_putIn_122 rfl ?_
    refine x_get C dX2_putIn_123 kfX2_38 hr.o rfl ?_
    refine x_icmp_ge (tgt := 155) C dX2_putIn_126 (by decide) (fun c126 => ?_) (fun c126 => ?_)
    · simp only [List.length_append, List.length_cons] at *
      omega
    · refine x_aload_n C dX2_putIn_129 rfl ?_
      refine x_get C dX2_putIn_130 kfX2_25 hr.o rfl ?_
      refine x_iload_n C dX2_putIn_133 rfl ?_
      refine x_iald C dX2_putIn_134 hr.a5 (by omega) (by rw [hr.l5]; omega) ?_
      rw [e5]
      refine x_iload_n C dX2_putIn_135 rfl ?_
      refine x_icmp_lt (tgt := 149) C dX2_putIn_136 (by decide) (fun c136 => ?_) (fun c136 => ?_)
      · refine s_inc4_3 C dX2_putIn_149 rfl (by first | (unfold iR; omega) | exact ⟨by omega, by omega⟩) ?_
        refine x_goto (tgt := 121) C dX2_putIn_152 (by decide) ?_
        have eu : upH a r = (r.1, r.2) := by
          unfold upH
          rw [if_neg (by omega)]
        refine ih (P ++ [upH a r]) (k + 1) w ⟨j1, j2, j3, j4, j5, j6, ?_⟩ hf (by simp; omega) (fun q hq => hb q (List.mem_cons_of_mem _ hq)) (fun k9 w9 h8 h9 => kx k9 w9 (by simpa using h8) h9)
        rw [eu]
        simpa using hr
      · refine x_aload_n C dX2_putIn_139 rfl ?_
        refine x_get C dX2_putIn_140 kfX2_25 hr.o rfl ?_
        refine x_iload_n C dX2_putIn_143 rfl ?_
        refine x_dup2 C dX2_putIn_144 rfl rfl ?_
        refine x_iald C dX2_putIn_145 hr.a5 (by omega) (by rw [hr.l5]; omega) ?_
        rw [e5]
        refine x_iconst C dX2_putIn_146 ⟨by decide, by decide⟩ ?_
        refine x_iadd C dX2_putIn_147 (by first | (unfold iR; omega) | exact ⟨by omega, by omega⟩) ?_
        refine x_iast C dX2_putIn_148 hr.a5 (by omega) (by rw [hr.l5]; omega) ?_
        refine ab_S_A5 hr hf (by rw [List.length_set]; exact hr.l5) (fun w hr hf => ?_)
        refine s_inc4_3 C dX2_putIn_149 rfl (by first | (unfold iR; omega) | exact ⟨by omega, by omega⟩) ?_
        refine x_goto (tgt := 121) C dX2_putIn_152 (by decide) ?_
        have eu : upH a r = (r.1 + 1, r.2) := by
          unfold upH
          rw [if_pos (by omega)]
        rw [mset_at _ P R r j5 _ (by omega)] at hr
        refine ih (P ++ [upH a r]) (k + 1) w ⟨j1, j2, j3, j4, j5, j6, ?_⟩ hf (by simp; omega) (fun q hq => hb q (List.mem_cons_of_mem _ hq)) (fun k9 w9 h8 h9 => kx k9 w9 (by simpa using h8) h9)
        rw [eu]
        simpa using hr

set_option maxHeartbeats 4000000 in
set_option maxRecDepth 100000 in
theorem c_X2_putIn (l : Launch) {w : mW} {h : Nat} {sg : List Int} {fo : List (Int × Int × Int)} {hi : List (Int × Int)} {mo wi nd tb : Int} (hS : isSh w h sg fo hi mo wi nd tb) (a s : Int) (hF : smF fo) (hH : smH hi) : Cv l yX2_putIn cX2_putIn 4 1 [vr h, vi a, vi s] w (fun w' => isT w' h (putS (sg, fo, hi) a s) mo wi nd tb ∧ frR w w' h (h + 6)) := by
  refine Cv.of (ml := [some (vr h), some (vi a), some (vi s), none]) kyX2_putIn rfl (Nat.le_of_ble_eq_true rfl) rfl ?_
  intro t n C hQ
  have hf : frR w w h (h + 6) := frR.rf
  have hS2 := hS
  obtain ⟨j1, j2, j3, j4, j5, j6, hr⟩ := hS
  have l1 := hr.l1
  have l2 := hr.l2
  have l3 := hr.l3
  have l4 := hr.l4
  have l5 := hr.l5
  have l6 := hr.l6
  simp only [List.length_append, List.length_map] at l1 l2 l3 l4 l5 l6
  refine x_aload_n C dX2_putIn_0 rfl ?_
  refine x_iload_n C dX2_putIn_1 rfl ?_
  refine y_p1 C dX2_putIn_2 kyX2_hasPlace knX2_hasPlace kmX2_67 hr.o (c_X2_hasPlace l hr a) (by decide) (Nat.zero_le _) (Nat.zero_le _) (Nat.le_of_ble_eq_true rfl) (fun z2 q2 => ?_)
  refine x_if_eq (tgt := 15) C dX2_putIn_5 (by decide) (fun c5 => ?_) (fun c5 => ?_)
  · refine x_vret C hQ dX2_putIn_15 (Nat.le_refl _) (Nat.le_refl _) ?_
    exact ⟨rfl, rfl, by unfold isT; rw [putS, if_neg (by simp only; omega)]; exact hS2, hf⟩
  · refine x_aload_n C dX2_putIn_8 rfl ?_
    refine y_p0 C dX2_putIn_9 kyX2_hasRoom knX2_hasRoom kmX2_70 hr.o (c_X2_hasRoom l hr) (by decide) (Nat.zero_le _) (Nat.zero_le _) (Nat.le_of_ble_eq_true rfl) (fun z9 q9 => ?_)
    refine x_if_ne (tgt := 16) C dX2_putIn_12 (by decide) (fun c12 => ?_) (fun c12 => ?_)
    · refine x_aload_n C dX2_putIn_16 rfl ?_
      refine x_get C dX2_putIn_17 kfX2_31 hr.o rfl ?_
      refine s_ist4_3 C dX2_putIn_20 rfl ?_
      obtain ⟨c, J1, rfl⟩ : ∃ u v, j1 = u :: v := List.exists_cons_of_length_pos (by omega)
      refine lp_X2_putIn_1 (G := sg ++ J1) a s (by omega) C (fun P R c w hP hG hr hf => ?_) (sg.length - a.toNat) sg J1 c sg.length w (by omega) rfl hr hf rfl (by omega)
      have lA := hr.l1
      simp only [List.length_append, List.length_cons] at lA
      refine x_aload_n C dX2_putIn_46 rfl ?_
      refine x_get C dX2_putIn_47 kfX2_9 hr.o rfl ?_
      refine x_iload_n C dX2_putIn_50 rfl ?_
      refine x_iload_n C dX2_putIn_51 rfl ?_
      refine x_iast C dX2_putIn_52 hr.a1 (by omega) (by rw [hr.l1]; omega) ?_
      refine ab_S_A1 hr hf (by rw [List.length_set]; exact hr.l1) (fun w hr hf => ?_)
      refine x_aload_n C dX2_putIn_53 rfl ?_
      refine x_dup C dX2_putIn_54 rfl ?_
      refine x_get C dX2_putIn_55 kfX2_31 hr.o rfl ?_
      refine x_iconst C dX2_putIn_58 ⟨by decide, by decide⟩ ?_
      refine x_iadd C dX2_putIn_59 (by first | (unfold iR; omega) | exact ⟨by omega, by omega⟩) ?_
      refine x_put C dX2_putIn_60 kfX2_31 kw_2_1 rfl rfl hr.o (Nat.le_of_ble_eq_true rfl) ?_
      refine ab_S_n hr hf (fun w hr hf => ?_)
      refine x_iconst C dX2_putIn_63 ⟨by decide, by decide⟩ ?_
      refine s_ist4_3 C dX2_putIn_64 rfl ?_
      have hPt : P = sg.take a.toNat := by
        have h9 := congrArg (List.take a.toNat) hG
        rw [List.take_append_of_le_length (by omega), List.take_append_of_le_length (by omega), List.take_of_length_le (by omega)] at h9
        exact h9
      have hRt : R = sg.drop a.toNat ++ J1 := by
        have h9 := congrArg (List.drop a.toNat) hG
        rw [List.drop_append_of_le_length (by omega), List.drop_append_of_le_length (by omega), List.drop_of_length_le (by omega)] at h9
        simpa using h9
      rw [set_mid P c s R (by omega)] at hr
      have hS3 : isSh w h (insI sg a s) ([] ++ fo) hi mo wi nd tb := by
        refine ⟨J1, j2, j3, j4, j5, j6, ?_⟩
        have e9 : ((insI sg a s).length : Int) = sg.length + 1 := by
          unfold insI
          simp only [List.length_append, List.length_cons, List.length_take, List.length_drop]
          omega
        have e8 : insI sg a s ++ J1 = P ++ s :: R := by
          rw [hPt, hRt]; unfold insI; simp
        rw [e9, e8]
        simpa using hr
      refine lp_X2_putIn_2 a s C fo [] 0 w hS3 hf rfl hF (fun k w hS hf => ?_)
      rw [List.nil_append] at hS
      refine x_iconst C dX2_putIn_119 ⟨by decide, by decide⟩ ?_
      refine s_ist4_3 C dX2_putIn_120 rfl ?_
      refine lp_X2_putIn_3 a s C hi [] 0 w (by simpa using hS) hf rfl hH (fun k w hS hf => ?_)
      refine x_vret C hQ dX2_putIn_155 (Nat.le_refl _) (Nat.le_refl _) ?_
      refine ⟨rfl, rfl, ?_, hf⟩
      unfold isT
      rw [putS, if_pos (by simp only; omega)]
      simpa using hS
    · refine x_vret C hQ dX2_putIn_15 (Nat.le_refl _) (Nat.le_refl _) ?_
      exact ⟨rfl, rfl, by unfold isT; rw [putS, if_neg (by simp only; omega)]; exact hS2, hf⟩
