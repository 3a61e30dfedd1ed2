/-! ===== the reference: what changed ===== -/
def smP (x y : mP) : Prop := y.2.2.1 = x.2.2.1 ∧ y.1 = x.1 ∧ y.2.2.2.1 = x.2.2.2.1 ∧ y.2.2.2.2 = x.2.2.2.2
theorem row_same {a : Int} {X T : List mP} (hX : (rowL a X).Pairwise (fun x y => x.2.1 < y.2.1)) (hT : (rowL a T).Pairwise (fun x y => x.2.1 < y.2.1)) (hl : (X.filter (pR a)).length = (T.filter (pR a)).length) : rowL a X = rowL a T ↔ ∀ x ∈ X, pR a x = true → ∃ y ∈ T, smP x y := by
  constructor
  · intro h x hx hp
    have h1 : (x.1, x.2.2.2.1, x.2.2.2.2) ∈ rowL a X := List.mem_map.mpr ⟨x, List.mem_filter.mpr ⟨hx, hp⟩, rfl⟩
    rw [h] at h1
    obtain ⟨y, hy, he⟩ := List.mem_map.mp h1
    obtain ⟨hy1, hy2⟩ := List.mem_filter.mp hy
    have a1 := of_decide_eq_true hp
    have a2 := of_decide_eq_true hy2
    simp only [Prod.mk.injEq] at he
    exact ⟨y, hy1, a2.1.trans a1.1.symm, he.1, he.2.1, he.2.2⟩
  · intro h
    refine (sub_eq (fun q => q.2.1) (rowL a T) (rowL a X) hX hT ?_).2 (by unfold rowL; rw [List.length_map, List.length_map, hl])
    intro q hq
    obtain ⟨x, hx, rfl⟩ := List.mem_map.mp hq
    obtain ⟨hx1, hx2⟩ := List.mem_filter.mp hx
    obtain ⟨y, hy, s1, s2, s3, s4⟩ := h x hx1 hx2
    have a1 := of_decide_eq_true hx2
    refine List.mem_map.mpr ⟨y, List.mem_filter.mpr ⟨hy, decide_eq_true ⟨s1.trans a1.1, ?_⟩⟩, ?_⟩
    · rw [s2]; exact a1.2
    · simp only [s2, s3, s4]
theorem cntR (a : Int) (P : List mP) (r : mP) : ((P ++ [r]).filter (pR a)).length = (P.filter (pR a)).length + if r.2.2.1 = a ∧ r.1 ≠ 27 then 1 else 0 := by
  rw [List.filter_append, List.length_append]
  by_cases h : r.2.2.1 = a ∧ r.1 ≠ 27
  · rw [if_pos h, List.filter_cons_of_pos (show pR a r = true from decide_eq_true h)]; rfl
  · rw [if_neg h, List.filter_cons_of_neg (show ¬ pR a r = true from fun h9 => h (of_decide_eq_true h9))]; rfl
def sdP (x : mP) (P : List mP) (z : Int) : Prop := (z = 0 ∧ ∀ y ∈ P, ¬ smP x y) ∨ (z = 1 ∧ ∃ y ∈ P, smP x y)
theorem sd_1 {x r : mP} {P : List mP} {z : Int} (hz : sdP x P z) (h : z ≠ 0) : sdP x (P ++ [r]) 1 := by
  rcases hz with ⟨h1, _⟩ | ⟨_, y, hy, hs⟩
  · exact absurd h1 h
  · exact Or.inr ⟨rfl, y, List.mem_append_left _ hy, hs⟩
theorem sd_2 {x r : mP} {P : List mP} (h : smP x r) : sdP x (P ++ [r]) 1 := Or.inr ⟨rfl, r, by simp, h⟩
theorem sd_3 {x r : mP} {P : List mP} {z : Int} (hz : sdP x P z) (h : z = 0) (h2 : ¬ smP x r) : sdP x (P ++ [r]) 0 := by
  rcases hz with ⟨_, g⟩ | ⟨h1, _⟩
  · refine Or.inl ⟨rfl, fun y hy => ?_⟩
    rcases List.mem_append.mp hy with h9 | h9
    · exact g y h9
    · rw [List.mem_singleton.mp h9]; exact h2
  · omega
def ckP (a : Int) (T P : List mP) (z : Int) : Prop := (z = 0 ∧ ∀ x ∈ P, pR a x = true → ∃ y ∈ T, smP x y) ∨ (z = 1 ∧ ∃ x ∈ P, pR a x = true ∧ ∀ y ∈ T, ¬ smP x y)
theorem ck_1 {a : Int} {T P : List mP} {r : mP} {z : Int} (hz : ckP a T P z) (h : z ≠ 0) : ckP a T (P ++ [r]) 1 := by
  rcases hz with ⟨h1, _⟩ | ⟨_, y, hy, hs⟩
  · exact absurd h1 h
  · exact Or.inr ⟨rfl, y, List.mem_append_left _ hy, hs⟩
theorem ck_2 {a : Int} {T P : List mP} {r : mP} (h : pR a r = true) (h2 : ∀ y ∈ T, ¬ smP r y) : ckP a T (P ++ [r]) 1 := Or.inr ⟨rfl, r, by simp, h, h2⟩
theorem ck_3 {a : Int} {T P : List mP} {r : mP} {z : Int} (hz : ckP a T P z) (h : z = 0) (h2 : pR a r = true → ∃ y ∈ T, smP r y) : ckP a T (P ++ [r]) 0 := by
  rcases hz with ⟨_, g⟩ | ⟨h1, _⟩
  · refine Or.inl ⟨rfl, fun y hy => ?_⟩
    rcases List.mem_append.mp hy with h9 | h9
    · exact g y h9
    · rw [List.mem_singleton.mp h9]; exact h2
  · omega
theorem cf0 (p : Nat → Bool) : ∀ m : Nat, cN p m = 0 ↔ fN p m = -4
  | 0 => by simp [cN, fN]
  | m + 1 => by
    have ih := cf0 p m
    have hn := cN_nn p m
    rw [cN, fN]
    by_cases hp : p m = true
    · rw [if_pos hp]
      by_cases h4 : fN p m = -4
      · rw [if_pos ⟨h4, hp⟩]; omega
      · rw [if_neg (fun h9 => h4 h9.1)]; omega
    · rw [if_neg hp, if_neg (fun h9 => hp h9.2)]; omega

set_option maxHeartbeats 1000000 in
set_option maxRecDepth 100000 in
theorem lp_X5_nowMany {t : TX} {l : Launch} {n0 : Nat} {w : mW} {h : Nat} {F : mF} {um sm wp wr ac sz ra rn : Int} {M14 M15 M16 M17 M18 M19 M20 M21 M22 M23 : List Int} {S : mScr} {j1 j2 j3 j4 j5 j6 J7 J8 J9 J10 J11 J12 J13 : List Int} (hr : rM w h F.1.1.length F.1.2.1.length F.1.2.2.length F.2.1 F.2.2.1 F.2.2.2.1 F.2.2.2.2 S.1.length ((S.2.length : Int) - 1) (lastC S.2) um sm wp wr ac sz ra rn (F.1.1 ++ j1) (F.1.2.1.map (fun f => f.1) ++ j2) (F.1.2.1.map (fun f => f.2.1) ++ j3) (F.1.2.1.map (fun f => f.2.2) ++ j4) (F.1.2.2.map (fun q => q.1) ++ j5) (F.1.2.2.map (fun q => q.2) ++ j6) (S.1.map (fun q => q.1) ++ J7) (S.1.map (fun q => q.2.1) ++ J8) (S.1.map (fun q => q.2.2.1) ++ J9) (S.1.map (fun q => q.2.2.2.1) ++ J10) (S.1.map (fun q => q.2.2.2.2) ++ J11) (S.2.map (fun q => q.1) ++ J12) (S.2.map (fun q => q.2) ++ J13) M14 M15 M16 M17 M18 M19 M20 M21 M22 M23) (a : Int) (C : Cb t l cX5_nowMany RX5 4 (some .int) 0 0 0) {Q : Int → Prop} (hQ : RQ t 0 0 (fun r n' w' => n' = n0 ∧ w' = w ∧ ∃ z : Int, r = some (vi z) ∧ Q z)) (hq : Q (((S.1.filter (pR a)).length : Nat) : Int)) : ∀ (R P : List mP) (k z : Int), S.1 = P ++ R → k = P.length → z = (((P.filter (pR a)).length : Nat) : Int) → J t 0 0 4 [some (vr h), some (vi a), some (vi z), some (vi k)] [] n0 w := by
  have l7 := hr.l7
  have l8 := hr.l8
  have l9 := hr.l9
  have l10 := hr.l10
  have l11 := hr.l11
  have l12 := hr.l12
  have l13 := hr.l13
  simp only [List.length_append, List.length_map] at l7 l8 l9 l10 l11 l12 l13
  intro R
  induction R with
  | nil =>
    intro P k z hP hk hz
    have hPS : S.1 = P := by rw [hP, List.append_nil]
    have hl : S.1.length = P.length := by rw [hPS]
    refine x_iload_n C dX5_nowMany_4 rfl ?_
    refine x_aload_n C dX5_nowMany_5 rfl ?_
    refine x_get C dX5_nowMany_6 kfX5_117 hr.o rfl ?_
    refine x_icmp_ge (tgt := 47) C dX5_nowMany_9 (by decide) (fun c9 => ?_) (fun c9 => absurd c9 (by omega))
    refine x_iload_n C dX5_nowMany_47 rfl ?_
    refine x_iret C hQ dX5_nowMany_48 (Nat.le_refl _) (Nat.le_refl _) ?_
    exact ⟨rfl, rfl, _, rfl, by rw [hz, ← hPS]; exact hq⟩
  | cons r R ih =>
    intro P k z hP hk hz
    have hl : S.1.length = P.length + (R.length + 1) := by rw [hP]; simp
    have hfl := List.length_filter_le (pR a) P
    have hcn := cntR a P r
    have k9 : (S.1.map (fun q => q.2.2.1) ++ J9).getD k.toNat 0 = r.2.2.1 := by rw [hP]; exact gmap_at _ P R r J9 hk
    have k7 : (S.1.map (fun q => q.1) ++ J7).getD k.toNat 0 = r.1 := by rw [hP]; exact gmap_at _ P R r J7 hk
    refine x_iload_n C dX5_nowMany_4 rfl ?_
    refine x_aload_n C dX5_nowMany_5 rfl ?_
    refine x_get C dX5_nowMany_6 kfX5_117 hr.o rfl ?_
    refine x_icmp_ge (tgt := 47) C dX5_nowMany_9 (by decide) (fun c9 => absurd c9 (by omega)) (fun c9 => ?_)
    refine x_iload_n C dX5_nowMany_12 rfl ?_
    refine x_aload_n C dX5_nowMany_13 rfl ?_
    refine x_get C dX5_nowMany_14 kfX5_44 hr.o rfl ?_
    refine x_iload_n C dX5_nowMany_17 rfl ?_
    refine x_iald C dX5_nowMany_18 hr.a9 (by omega) (by rw [hr.l9]; omega) ?_
    rw [k9]
    refine x_iload_n C dX5_nowMany_19 rfl ?_
    refine x_icmp_ne (tgt := 38) C dX5_nowMany_20 (by decide) (fun c20 => ?_) (fun c20 => ?_)
    · refine x_iconst C dX5_nowMany_38 ⟨by decide, by decide⟩ ?_
      refine x_iadd C dX5_nowMany_39 (by first | (unfold iR; omega) | exact ⟨by omega, by omega⟩) ?_
      refine s_ist4_2 C dX5_nowMany_40 rfl ?_
      refine s_inc4_3 C dX5_nowMany_41 rfl (by first | (unfold iR; omega) | exact ⟨by omega, by omega⟩) ?_
      refine x_goto (tgt := 4) C dX5_nowMany_44 (by decide) ?_
      exact ih (P ++ [r]) (k + 1) _ (by rw [hP]; simp) (by simp; omega) (by rw [if_neg (by omega)] at hcn; omega)
    · refine x_aload_n C dX5_nowMany_23 rfl ?_
      refine x_get C dX5_nowMany_24 kfX5_38 hr.o rfl ?_
      refine x_iload_n C dX5_nowMany_27 rfl ?_
      refine x_iald C dX5_nowMany_28 hr.a7 (by omega) (by rw [hr.l7]; omega) ?_
      rw [k7]
      refine x_bipush C dX5_nowMany_29 ⟨by decide, by decide⟩ ?_
      refine x_icmp_eq (tgt := 38) C dX5_nowMany_31 (by decide) (fun c31 => ?_) (fun c31 => ?_)
      · refine x_iconst C dX5_nowMany_38 ⟨by decide, by decide⟩ ?_
        refine x_iadd C dX5_nowMany_39 (by first | (unfold iR; omega) | exact ⟨by omega, by omega⟩) ?_
        refine s_ist4_2 C dX5_nowMany_40 rfl ?_
        refine s_inc4_3 C dX5_nowMany_41 rfl (by first | (unfold iR; omega) | exact ⟨by omega, by omega⟩) ?_
        refine x_goto (tgt := 4) C dX5_nowMany_44 (by decide) ?_
        exact ih (P ++ [r]) (k + 1) _ (by rw [hP]; simp) (by simp; omega) (by rw [if_neg (by omega)] at hcn; omega)
      · refine x_iconst C dX5_nowMany_34 ⟨by decide, by decide⟩ ?_
        refine x_goto (tgt := 39) C dX5_nowMany_35 (by decide) ?_
        refine x_iadd C dX5_nowMany_39 (by first | (unfold iR; omega) | exact ⟨by omega, by omega⟩) ?_
        refine s_ist4_2 C dX5_nowMany_40 rfl ?_
        refine s_inc4_3 C dX5_nowMany_41 rfl (by first | (unfold iR; omega) | exact ⟨by omega, by omega⟩) ?_
        refine x_goto (tgt := 4) C dX5_nowMany_44 (by decide) ?_
        exact ih (P ++ [r]) (k + 1) _ (by rw [hP]; simp) (by simp; omega) (by rw [if_pos ⟨by omega, by omega⟩] at hcn; omega)

set_option maxHeartbeats 1000000 in
set_option maxRecDepth 100000 in
theorem c_X5_nowMany (l : Launch) {w : mW} {h : Nat} {F : mF} {um sm wp wr ac sz ra rn : Int} {M14 M15 M16 M17 M18 M19 M20 M21 M22 M23 : List Int} {S : mScr} {j1 j2 j3 j4 j5 j6 J7 J8 J9 J10 J11 J12 J13 : List Int} (hr : rM w h F.1.1.length F.1.2.1.length F.1.2.2.length F.2.1 F.2.2.1 F.2.2.2.1 F.2.2.2.2 S.1.length ((S.2.length : Int) - 1) (lastC S.2) um sm wp wr ac sz ra rn (F.1.1 ++ j1) (F.1.2.1.map (fun f => f.1) ++ j2) (F.1.2.1.map (fun f => f.2.1) ++ j3) (F.1.2.1.map (fun f => f.2.2) ++ j4) (F.1.2.2.map (fun q => q.1) ++ j5) (F.1.2.2.map (fun q => q.2) ++ j6) (S.1.map (fun q => q.1) ++ J7) (S.1.map (fun q => q.2.1) ++ J8) (S.1.map (fun q => q.2.2.1) ++ J9) (S.1.map (fun q => q.2.2.2.1) ++ J10) (S.1.map (fun q => q.2.2.2.2) ++ J11) (S.2.map (fun q => q.1) ++ J12) (S.2.map (fun q => q.2) ++ J13) M14 M15 M16 M17 M18 M19 M20 M21 M22 M23) (a : Int) : Cp l yX5_nowMany cX5_nowMany 4 (some .int) 0 [vr h, vi a] w (fun z => z = (((S.1.filter (pR a)).length : Nat) : Int)) := by
  refine Cp.of (ml := [some (vr h), some (vi a), none, none]) kyX5_nowMany rfl (Nat.le_of_ble_eq_true rfl) rfl ?_
  intro t n C hQ
  refine x_iconst C dX5_nowMany_0 ⟨by decide, by decide⟩ ?_
  refine s_ist4_2 C dX5_nowMany_1 rfl ?_
  refine x_iconst C dX5_nowMany_2 ⟨by decide, by decide⟩ ?_
  refine s_ist4_3 C dX5_nowMany_3 rfl ?_
  exact lp_X5_nowMany hr  a C hQ rfl S.1 [] 0 0 rfl rfl rfl

set_option maxHeartbeats 1000000 in
set_option maxRecDepth 100000 in
theorem lp_X5_wereMany {t : TX} {l : Launch} {n0 : Nat} {w : mW} {h : Nat} {F : mF} {um sm wp wr ac sz ra rn : Int} {M14 M15 M16 M17 M18 M19 M20 M21 M22 M23 : List Int} {S : mScr} {j1 j2 j3 j4 j5 j6 J7 J8 J9 J10 J11 J12 J13 : List Int} (hr : rM w h F.1.1.length F.1.2.1.length F.1.2.2.length F.2.1 F.2.2.1 F.2.2.2.1 F.2.2.2.2 S.1.length ((S.2.length : Int) - 1) (lastC S.2) um sm wp wr ac sz ra rn (F.1.1 ++ j1) (F.1.2.1.map (fun f => f.1) ++ j2) (F.1.2.1.map (fun f => f.2.1) ++ j3) (F.1.2.1.map (fun f => f.2.2) ++ j4) (F.1.2.2.map (fun q => q.1) ++ j5) (F.1.2.2.map (fun q => q.2) ++ j6) (S.1.map (fun q => q.1) ++ J7) (S.1.map (fun q => q.2.1) ++ J8) (S.1.map (fun q => q.2.2.1) ++ J9) (S.1.map (fun q => q.2.2.2.1) ++ J10) (S.1.map (fun q => q.2.2.2.2) ++ J11) (S.2.map (fun q => q.1) ++ J12) (S.2.map (fun q => q.2) ++ J13) M14 M15 M16 M17 M18 M19 M20 M21 M22 M23) {T : List mP} {j17 j18 j19 j20 : List Int} (ew : wp = T.length) (e17 : M17 = T.map (fun q => q.1) ++ j17) (e18 : M18 = T.map (fun q => q.2.2.1) ++ j18) (e19 : M19 = T.map (fun q => q.2.2.2.1) ++ j19) (e20 : M20 = T.map (fun q => q.2.2.2.2) ++ j20) (a : Int) (C : Cb t l cX5_wereMany RX5 4 (some .int) 0 0 0) {Q : Int → Prop} (hQ : RQ t 0 0 (fun r n' w' => n' = n0 ∧ w' = w ∧ ∃ z : Int, r = some (vi z) ∧ Q z)) (hq : Q (((T.filter (pR a)).length : Nat) : Int)) : ∀ (R P : List mP) (k z : Int), T = P ++ R → k = P.length → z = (((P.filter (pR a)).length : Nat) : Int) → J t 0 0 4 [some (vr h), some (vi a), some (vi z), some (vi k)] [] n0 w := by
  subst ew e17 e18 e19 e20
  have l7 := hr.l7
  have l8 := hr.l8
  have l9 := hr.l9
  have l10 := hr.l10
  have l11 := hr.l11
  have l12 := hr.l12
  have l13 := hr.l13
  simp only [List.length_append, List.length_map] at l7 l8 l9 l10 l11 l12 l13
  have l17 := hr.l17
  have l18 := hr.l18
  have l19 := hr.l19
  have l20 := hr.l20
  simp only [List.length_append, List.length_map] at l17 l18 l19 l20
  intro R
  induction R with
  | nil =>
    intro P k z hP hk hz
    have hPS : T = P := by rw [hP, List.append_nil]
    have hl : T.length = P.length := by rw [hPS]
    refine x_iload_n C dX5_wereMany_4 rfl ?_
    refine x_aload_n C dX5_wereMany_5 rfl ?_
    refine x_get C dX5_wereMany_6 kfX5_165 hr.o rfl ?_
    refine x_icmp_ge (tgt := 47) C dX5_wereMany_9 (by decide) (fun c9 => ?_) (fun c9 => absurd c9 (by omega))
    refine x_iload_n C dX5_wereMany_47 rfl ?_
    refine x_iret C hQ dX5_wereMany_48 (Nat.le_refl _) (Nat.le_refl _) ?_
    exact ⟨rfl, rfl, _, rfl, by rw [hz, ← hPS]; exact hq⟩
  | cons r R ih =>
    intro P k z hP hk hz
    have hl : T.length = P.length + (R.length + 1) := by rw [hP]; simp
    have hfl := List.length_filter_le (pR a) P
    have hcn := cntR a P r
    have k18 : (T.map (fun q => q.2.2.1) ++ j18).getD k.toNat 0 = r.2.2.1 := by rw [hP]; exact gmap_at _ P R r j18 hk
    have k17 : (T.map (fun q => q.1) ++ j17).getD k.toNat 0 = r.1 := by rw [hP]; exact gmap_at _ P R r j17 hk
    refine x_iload_n C dX5_wereMany_4 rfl ?_
    refine x_aload_n C dX5_wereMany_5 rfl ?_
    refine x_get C dX5_wereMany_6 kfX5_165 hr.o rfl ?_
    refine x_icmp_ge (tgt := 47) C dX5_wereMany_9 (by decide) (fun c9 => absurd c9 (by omega)) (fun c9 => ?_)
    refine x_iload_n C dX5_wereMany_12 rfl ?_
    refine x_aload_n C dX5_wereMany_13 rfl ?_
    refine x_get C dX5_wereMany_14 kfX5_71 hr.o rfl ?_
    refine x_iload_n C dX5_wereMany_17 rfl ?_
    refine x_iald C dX5_wereMany_18 hr.a18 (by omega) (by rw [hr.l18]; omega) ?_
    rw [k18]
    refine x_iload_n C dX5_wereMany_19 rfl ?_
    refine x_icmp_ne (tgt := 38) C dX5_wereMany_20 (by decide) (fun c20 => ?_) (fun c20 => ?_)
    · refine x_iconst C dX5_wereMany_38 ⟨by decide, by decide⟩ ?_
      refine x_iadd C dX5_wereMany_39 (by first | (unfold iR; omega) | exact ⟨by omega, by omega⟩) ?_
      refine s_ist4_2 C dX5_wereMany_40 rfl ?_
      refine s_inc4_3 C dX5_wereMany_41 rfl (by first | (unfold iR; omega) | exact ⟨by omega, by omega⟩) ?_
      refine x_goto (tgt := 4) C dX5_wereMany_44 (by decide) ?_
      exact ih (P ++ [r]) (k + 1) _ (by rw [hP]; simp) (by simp; omega) (by rw [if_neg (by omega)] at hcn; omega)
    · refine x_aload_n C dX5_wereMany_23 rfl ?_
      refine x_get C dX5_wereMany_24 kfX5_68 hr.o rfl ?_
      refine x_iload_n C dX5_wereMany_27 rfl ?_
      refine x_iald C dX5_wereMany_28 hr.a17 (by omega) (by rw [hr.l17]; omega) ?_
      rw [k17]
      refine x_bipush C dX5_wereMany_29 ⟨by decide, by decide⟩ ?_
      refine x_icmp_eq (tgt := 38) C dX5_wereMany_31 (by decide) (fun c31 => ?_) (fun c31 => ?_)
      · refine x_iconst C dX5_wereMany_38 ⟨by decide, by decide⟩ ?_
        refine x_iadd C dX5_wereMany_39 (by first | (unfold iR; omega) | exact ⟨by omega, by omega⟩) ?_
        refine s_ist4_2 C dX5_wereMany_40 rfl ?_
        refine s_inc4_3 C dX5_wereMany_41 rfl (by first | (unfold iR; omega) | exact ⟨by omega, by omega⟩) ?_
        refine x_goto (tgt := 4) C dX5_wereMany_44 (by decide) ?_
        exact ih (P ++ [r]) (k + 1) _ (by rw [hP]; simp) (by simp; omega) (by rw [if_neg (by omega)] at hcn; omega)
      · refine x_iconst C dX5_wereMany_34 ⟨by decide, by decide⟩ ?_
        refine x_goto (tgt := 39) C dX5_wereMany_35 (by decide) ?_
        refine x_iadd C dX5_wereMany_39 (by first | (unfold iR; omega) | exact ⟨by omega, by omega⟩) ?_
        refine s_ist4_2 C dX5_wereMany_40 rfl ?_
        refine s_inc4_3 C dX5_wereMany_41 rfl (by first | (unfold iR; omega) | exact ⟨by omega, by omega⟩) ?_
        refine x_goto (tgt := 4) C dX5_wereMany_44 (by decide) ?_
        exact ih (P ++ [r]) (k + 1) _ (by rw [hP]; simp) (by simp; omega) (by rw [if_pos ⟨by omega, by omega⟩] at hcn; omega)

set_option maxHeartbeats 1000000 in
set_option maxRecDepth 100000 in
theorem c_X5_wereMany (l : Launch) {w : mW} {h : Nat} {F : mF} {um sm wp wr ac sz ra rn : Int} {M14 M15 M16 M17 M18 M19 M20 M21 M22 M23 : List Int} {S : mScr} {j1 j2 j3 j4 j5 j6 J7 J8 J9 J10 J11 J12 J13 : List Int} (hr : rM w h F.1.1.length F.1.2.1.length F.1.2.2.length F.2.1 F.2.2.1 F.2.2.2.1 F.2.2.2.2 S.1.length ((S.2.length : Int) - 1) (lastC S.2) um sm wp wr ac sz ra rn (F.1.1 ++ j1) (F.1.2.1.map (fun f => f.1) ++ j2) (F.1.2.1.map (fun f => f.2.1) ++ j3) (F.1.2.1.map (fun f => f.2.2) ++ j4) (F.1.2.2.map (fun q => q.1) ++ j5) (F.1.2.2.map (fun q => q.2) ++ j6) (S.1.map (fun q => q.1) ++ J7) (S.1.map (fun q => q.2.1) ++ J8) (S.1.map (fun q => q.2.2.1) ++ J9) (S.1.map (fun q => q.2.2.2.1) ++ J10) (S.1.map (fun q => q.2.2.2.2) ++ J11) (S.2.map (fun q => q.1) ++ J12) (S.2.map (fun q => q.2) ++ J13) M14 M15 M16 M17 M18 M19 M20 M21 M22 M23) {T : List mP} {j17 j18 j19 j20 : List Int} (ew : wp = T.length) (e17 : M17 = T.map (fun q => q.1) ++ j17) (e18 : M18 = T.map (fun q => q.2.2.1) ++ j18) (e19 : M19 = T.map (fun q => q.2.2.2.1) ++ j19) (e20 : M20 = T.map (fun q => q.2.2.2.2) ++ j20) (a : Int) : Cp l yX5_wereMany cX5_wereMany 4 (some .int) 0 [vr h, vi a] w (fun z => z = (((T.filter (pR a)).length : Nat) : Int)) := by
  refine Cp.of (ml := [some (vr h), some (vi a), none, none]) kyX5_wereMany rfl (Nat.le_of_ble_eq_true rfl) rfl ?_
  intro t n C hQ
  refine x_iconst C dX5_wereMany_0 ⟨by decide, by decide⟩ ?_
  refine s_ist4_2 C dX5_wereMany_1 rfl ?_
  refine x_iconst C dX5_wereMany_2 ⟨by decide, by decide⟩ ?_
  refine s_ist4_3 C dX5_wereMany_3 rfl ?_
  exact lp_X5_wereMany hr ew e17 e18 e19 e20 a C hQ rfl T [] 0 0 rfl rfl rfl

set_option maxHeartbeats 1000000 in
set_option maxRecDepth 100000 in
theorem lp_X5_stood {t : TX} {l : Launch} {n0 : Nat} {w : mW} {h : Nat} {F : mF} {um sm wp wr ac sz ra rn : Int} {M14 M15 M16 M17 M18 M19 M20 M21 M22 M23 : List Int} {S : mScr} {j1 j2 j3 j4 j5 j6 J7 J8 J9 J10 J11 J12 J13 : List Int} (hr : rM w h F.1.1.length F.1.2.1.length F.1.2.2.length F.2.1 F.2.2.1 F.2.2.2.1 F.2.2.2.2 S.1.length ((S.2.length : Int) - 1) (lastC S.2) um sm wp wr ac sz ra rn (F.1.1 ++ j1) (F.1.2.1.map (fun f => f.1) ++ j2) (F.1.2.1.map (fun f => f.2.1) ++ j3) (F.1.2.1.map (fun f => f.2.2) ++ j4) (F.1.2.2.map (fun q => q.1) ++ j5) (F.1.2.2.map (fun q => q.2) ++ j6) (S.1.map (fun q => q.1) ++ J7) (S.1.map (fun q => q.2.1) ++ J8) (S.1.map (fun q => q.2.2.1) ++ J9) (S.1.map (fun q => q.2.2.2.1) ++ J10) (S.1.map (fun q => q.2.2.2.2) ++ J11) (S.2.map (fun q => q.1) ++ J12) (S.2.map (fun q => q.2) ++ J13) M14 M15 M16 M17 M18 M19 M20 M21 M22 M23) {T : List mP} {j17 j18 j19 j20 : List Int} (ew : wp = T.length) (e17 : M17 = T.map (fun q => q.1) ++ j17) (e18 : M18 = T.map (fun q => q.2.2.1) ++ j18) (e19 : M19 = T.map (fun q => q.2.2.2.1) ++ j19) (e20 : M20 = T.map (fun q => q.2.2.2.2) ++ j20) (a : Int) {x : mP} {P0 R0 : List mP} (hx : S.1 = P0 ++ x :: R0) (ha : a = P0.length) (C : Cb t l cX5_stood RX5 4 (some .boolean) 0 0 0) {Q : Int → Prop} (hQ : RQ t 0 0 (fun r n' w' => n' = n0 ∧ w' = w ∧ ∃ z : Int, r = some (vi z) ∧ Q z)) (hq : ∀ z, sdP x T z → Q z) : ∀ (R P : List mP) (k z : Int), T = P ++ R → k = P.length → sdP x P z → J t 0 0 4 [some (vr h), some (vi a), some (vi z), some (vi k)] [] n0 w := by
  subst ew e17 e18 e19 e20
  have l7 := hr.l7
  have l8 := hr.l8
  have l9 := hr.l9
  have l10 := hr.l10
  have l11 := hr.l11
  have l12 := hr.l12
  have l13 := hr.l13
  simp only [List.length_append, List.length_map] at l7 l8 l9 l10 l11 l12 l13
  have l17 := hr.l17
  have l18 := hr.l18
  have l19 := hr.l19
  have l20 := hr.l20
  simp only [List.length_append, List.length_map] at l17 l18 l19 l20
  have hxl : S.1.length = P0.length + (R0.length + 1) := by rw [hx]; simp
  have x7 : (S.1.map (fun q => q.1) ++ J7).getD a.toNat 0 = x.1 := by rw [hx]; exact gmap_at _ P0 R0 x J7 ha
  have x9 : (S.1.map (fun q => q.2.2.1) ++ J9).getD a.toNat 0 = x.2.2.1 := by rw [hx]; exact gmap_at _ P0 R0 x J9 ha
  have x10 : (S.1.map (fun q => q.2.2.2.1) ++ J10).getD a.toNat 0 = x.2.2.2.1 := by rw [hx]; exact gmap_at _ P0 R0 x J10 ha
  have x11 : (S.1.map (fun q => q.2.2.2.2) ++ J11).getD a.toNat 0 = x.2.2.2.2 := by rw [hx]; exact gmap_at _ P0 R0 x J11 ha
  intro R
  induction R with
  | nil =>
    intro P k z hP hk hz
    have hPS : T = P := by rw [hP, List.append_nil]
    have hl : T.length = P.length := by rw [hPS]
    refine x_iload_n C dX5_stood_4 rfl ?_
    refine x_aload_n C dX5_stood_5 rfl ?_
    refine x_get C dX5_stood_6 kfX5_165 hr.o rfl ?_
    refine x_icmp_ge (tgt := 88) C dX5_stood_9 (by decide) (fun c9 => ?_) (fun c9 => absurd c9 (by omega))
    refine x_iload_n C dX5_stood_88 rfl ?_
    refine x_zret C hQ dX5_stood_89 (by rcases hz with h9 | h9 <;> omega) (Nat.le_refl _) (Nat.le_refl _) ?_
    exact ⟨rfl, rfl, _, rfl, hq z (by rw [hPS]; exact hz)⟩
  | cons r R ih =>
    intro P k z hP hk hz
    have hl : T.length = P.length + (R.length + 1) := by rw [hP]; simp
    have k17 : (T.map (fun q => q.1) ++ j17).getD k.toNat 0 = r.1 := by rw [hP]; exact gmap_at _ P R r j17 hk
    have k18 : (T.map (fun q => q.2.2.1) ++ j18).getD k.toNat 0 = r.2.2.1 := by rw [hP]; exact gmap_at _ P R r j18 hk
    have k19 : (T.map (fun q => q.2.2.2.1) ++ j19).getD k.toNat 0 = r.2.2.2.1 := by rw [hP]; exact gmap_at _ P R r j19 hk
    have k20 : (T.map (fun q => q.2.2.2.2) ++ j20).getD k.toNat 0 = r.2.2.2.2 := by rw [hP]; exact gmap_at _ P R r j20 hk
    refine x_iload_n C dX5_stood_4 rfl ?_
    refine x_aload_n C dX5_stood_5 rfl ?_
    refine x_get C dX5_stood_6 kfX5_165 hr.o rfl ?_
    refine x_icmp_ge (tgt := 88) C dX5_stood_9 (by decide) (fun c9 => absurd c9 (by omega)) (fun c9 => ?_)
    refine x_iload_n C dX5_stood_12 rfl ?_
    refine x_if_ne (tgt := 76) C dX5_stood_13 (by decide) (fun c13 => ?_) (fun c13 => ?_)
    · refine x_iconst C dX5_stood_76 ⟨by decide, by decide⟩ ?_
      refine x_goto (tgt := 81) C dX5_stood_77 (by decide) ?_
      refine s_ist4_2 C dX5_stood_81 rfl ?_
      refine s_inc4_3 C dX5_stood_82 rfl (by first | (unfold iR; omega) | exact ⟨by omega, by omega⟩) ?_
      refine x_goto (tgt := 4) C dX5_stood_85 (by decide) ?_
      exact ih (P ++ [r]) (k + 1) _ (by rw [hP]; simp) (by simp; omega) (sd_1 hz (by omega))
    · refine x_aload_n C dX5_stood_16 rfl ?_
      refine x_get C dX5_stood_17 kfX5_71 hr.o rfl ?_
      refine x_iload_n C dX5_stood_20 rfl ?_
      refine x_iald C dX5_stood_21 hr.a18 (by omega) (by rw [hr.l18]; omega) ?_
      rw [k18]
      refine x_aload_n C dX5_stood_22 rfl ?_
      refine x_get C dX5_stood_23 kfX5_44 hr.o rfl ?_
      refine x_iload_n C dX5_stood_26 rfl ?_
      refine x_iald C dX5_stood_27 hr.a9 (by omega) (by rw [hr.l9]; omega) ?_
      rw [x9]
      refine x_icmp_ne (tgt := 80) C dX5_stood_28 (by decide) (fun c28 => ?_) (fun c28 => ?_)
      · refine x_iconst C dX5_stood_80 ⟨by decide, by decide⟩ ?_
        refine s_ist4_2 C dX5_stood_81 rfl ?_
        refine s_inc4_3 C dX5_stood_82 rfl (by first | (unfold iR; omega) | exact ⟨by omega, by omega⟩) ?_
        refine x_goto (tgt := 4) C dX5_stood_85 (by decide) ?_
        exact ih (P ++ [r]) (k + 1) _ (by rw [hP]; simp) (by simp; omega) (sd_3 hz (by omega) (fun h9 => by obtain ⟨b1, b2, b3, b4⟩ := h9; omega))
      · refine x_aload_n C dX5_stood_31 rfl ?_
        refine x_get C dX5_stood_32 kfX5_68 hr.o rfl ?_
        refine x_iload_n C dX5_stood_35 rfl ?_
        refine x_iald C dX5_stood_36 hr.a17 (by omega) (by rw [hr.l17]; omega) ?_
        rw [k17]
        refine x_aload_n C dX5_stood_37 rfl ?_
        refine x_get C dX5_stood_38 kfX5_38 hr.o rfl ?_
        refine x_iload_n C dX5_stood_41 rfl ?_
        refine x_iald C dX5_stood_42 hr.a7 (by omega) (by rw [hr.l7]; omega) ?_
        rw [x7]
        refine x_icmp_ne (tgt := 80) C dX5_stood_43 (by decide) (fun c43 => ?_) (fun c43 => ?_)
        · refine x_iconst C dX5_stood_80 ⟨by decide, by decide⟩ ?_
          refine s_ist4_2 C dX5_stood_81 rfl ?_
          refine s_inc4_3 C dX5_stood_82 rfl (by first | (unfold iR; omega) | exact ⟨by omega, by omega⟩) ?_
          refine x_goto (tgt := 4) C dX5_stood_85 (by decide) ?_
          exact ih (P ++ [r]) (k + 1) _ (by rw [hP]; simp) (by simp; omega) (sd_3 hz (by omega) (fun h9 => by obtain ⟨b1, b2, b3, b4⟩ := h9; omega))
        · refine x_aload_n C dX5_stood_46 rfl ?_
          refine x_get C dX5_stood_47 kfX5_74 hr.o rfl ?_
          refine x_iload_n C dX5_stood_50 rfl ?_
          refine x_iald C dX5_stood_51 hr.a19 (by omega) (by rw [hr.l19]; omega) ?_
          rw [k19]
          refine x_aload_n C dX5_stood_52 rfl ?_
          refine x_get C dX5_stood_53 kfX5_47 hr.o rfl ?_
          refine x_iload_n C dX5_stood_56 rfl ?_
          refine x_iald C dX5_stood_57 hr.a10 (by omega) (by rw [hr.l10]; omega) ?_
          rw [x10]
          refine x_icmp_ne (tgt := 80) C dX5_stood_58 (by decide) (fun c58 => ?_) (fun c58 => ?_)
          · refine x_iconst C dX5_stood_80 ⟨by decide, by decide⟩ ?_
            refine s_ist4_2 C dX5_stood_81 rfl ?_
            refine s_inc4_3 C dX5_stood_82 rfl (by first | (unfold iR; omega) | exact ⟨by omega, by omega⟩) ?_
            refine x_goto (tgt := 4) C dX5_stood_85 (by decide) ?_
            exact ih (P ++ [r]) (k + 1) _ (by rw [hP]; simp) (by simp; omega) (sd_3 hz (by omega) (fun h9 => by obtain ⟨b1, b2, b3, b4⟩ := h9; omega))
          · refine x_aload_n C dX5_stood_61 rfl ?_
            refine x_get C dX5_stood_62 kfX5_77 hr.o rfl ?_
            refine x_iload_n C dX5_stood_65 rfl ?_
            refine x_iald C dX5_stood_66 hr.a20 (by omega) (by rw [hr.l20]; omega) ?_
            rw [k20]
            refine x_aload_n C dX5_stood_67 rfl ?_
            refine x_get C dX5_stood_68 kfX5_50 hr.o rfl ?_
            refine x_iload_n C dX5_stood_71 rfl ?_
            refine x_iald C dX5_stood_72 hr.a11 (by omega) (by rw [hr.l11]; omega) ?_
            rw [x11]
            refine x_icmp_ne (tgt := 80) C dX5_stood_73 (by decide) (fun c73 => ?_) (fun c73 => ?_)
            · refine x_iconst C dX5_stood_80 ⟨by decide, by decide⟩ ?_
              refine s_ist4_2 C dX5_stood_81 rfl ?_
              refine s_inc4_3 C dX5_stood_82 rfl (by first | (unfold iR; omega) | exact ⟨by omega, by omega⟩) ?_
              refine x_goto (tgt := 4) C dX5_stood_85 (by decide) ?_
              exact ih (P ++ [r]) (k + 1) _ (by rw [hP]; simp) (by simp; omega) (sd_3 hz (by omega) (fun h9 => by obtain ⟨b1, b2, b3, b4⟩ := h9; omega))
            · refine x_iconst C dX5_stood_76 ⟨by decide, by decide⟩ ?_
              refine x_goto (tgt := 81) C dX5_stood_77 (by decide) ?_
              refine s_ist4_2 C dX5_stood_81 rfl ?_
              refine s_inc4_3 C dX5_stood_82 rfl (by first | (unfold iR; omega) | exact ⟨by omega, by omega⟩) ?_
              refine x_goto (tgt := 4) C dX5_stood_85 (by decide) ?_
              exact ih (P ++ [r]) (k + 1) _ (by rw [hP]; simp) (by simp; omega) (sd_2 ⟨by omega, by omega, by omega, by omega⟩)

set_option maxHeartbeats 1000000 in
set_option maxRecDepth 100000 in
theorem c_X5_stood (l : Launch) {w : mW} {h : Nat} {F : mF} {um sm wp wr ac sz ra rn : Int} {M14 M15 M16 M17 M18 M19 M20 M21 M22 M23 : List Int} {S : mScr} {j1 j2 j3 j4 j5 j6 J7 J8 J9 J10 J11 J12 J13 : List Int} (hr : rM w h F.1.1.length F.1.2.1.length F.1.2.2.length F.2.1 F.2.2.1 F.2.2.2.1 F.2.2.2.2 S.1.length ((S.2.length : Int) - 1) (lastC S.2) um sm wp wr ac sz ra rn (F.1.1 ++ j1) (F.1.2.1.map (fun f => f.1) ++ j2) (F.1.2.1.map (fun f => f.2.1) ++ j3) (F.1.2.1.map (fun f => f.2.2) ++ j4) (F.1.2.2.map (fun q => q.1) ++ j5) (F.1.2.2.map (fun q => q.2) ++ j6) (S.1.map (fun q => q.1) ++ J7) (S.1.map (fun q => q.2.1) ++ J8) (S.1.map (fun q => q.2.2.1) ++ J9) (S.1.map (fun q => q.2.2.2.1) ++ J10) (S.1.map (fun q => q.2.2.2.2) ++ J11) (S.2.map (fun q => q.1) ++ J12) (S.2.map (fun q => q.2) ++ J13) M14 M15 M16 M17 M18 M19 M20 M21 M22 M23) {T : List mP} {j17 j18 j19 j20 : List Int} (ew : wp = T.length) (e17 : M17 = T.map (fun q => q.1) ++ j17) (e18 : M18 = T.map (fun q => q.2.2.1) ++ j18) (e19 : M19 = T.map (fun q => q.2.2.2.1) ++ j19) (e20 : M20 = T.map (fun q => q.2.2.2.2) ++ j20) (a : Int) {x : mP} {P0 R0 : List mP} (hx : S.1 = P0 ++ x :: R0) (ha : a = P0.length) : Cp l yX5_stood cX5_stood 4 (some .boolean) 0 [vr h, vi a] w (fun z => sdP x T z) := by
  refine Cp.of (ml := [some (vr h), some (vi a), none, none]) kyX5_stood rfl (Nat.le_of_ble_eq_true rfl) rfl ?_
  intro t n C hQ
  refine x_iconst C dX5_stood_0 ⟨by decide, by decide⟩ ?_
  refine s_ist4_2 C dX5_stood_1 rfl ?_
  refine x_iconst C dX5_stood_2 ⟨by decide, by decide⟩ ?_
  refine s_ist4_3 C dX5_stood_3 rfl ?_
  exact lp_X5_stood hr ew e17 e18 e19 e20 a hx ha C hQ (fun z h9 => h9) T [] 0 0 rfl rfl (Or.inl ⟨rfl, fun y hy => by simp at hy⟩)

set_option maxHeartbeats 1000000 in
set_option maxRecDepth 100000 in
theorem lp_X5_isChanged {t : TX} {l : Launch} {n0 : Nat} {w : mW} {h : Nat} {F : mF} {um sm wp wr ac sz ra rn : Int} {M14 M15 M16 M17 M18 M19 M20 M21 M22 M23 : List Int} {S : mScr} {j1 j2 j3 j4 j5 j6 J7 J8 J9 J10 J11 J12 J13 : List Int} (hr : rM w h F.1.1.length F.1.2.1.length F.1.2.2.length F.2.1 F.2.2.1 F.2.2.2.1 F.2.2.2.2 S.1.length ((S.2.length : Int) - 1) (lastC S.2) um sm wp wr ac sz ra rn (F.1.1 ++ j1) (F.1.2.1.map (fun f => f.1) ++ j2) (F.1.2.1.map (fun f => f.2.1) ++ j3) (F.1.2.1.map (fun f => f.2.2) ++ j4) (F.1.2.2.map (fun q => q.1) ++ j5) (F.1.2.2.map (fun q => q.2) ++ j6) (S.1.map (fun q => q.1) ++ J7) (S.1.map (fun q => q.2.1) ++ J8) (S.1.map (fun q => q.2.2.1) ++ J9) (S.1.map (fun q => q.2.2.2.1) ++ J10) (S.1.map (fun q => q.2.2.2.2) ++ J11) (S.2.map (fun q => q.1) ++ J12) (S.2.map (fun q => q.2) ++ J13) M14 M15 M16 M17 M18 M19 M20 M21 M22 M23) {T : List mP} {j17 j18 j19 j20 : List Int} (ew : wp = T.length) (e17 : M17 = T.map (fun q => q.1) ++ j17) (e18 : M18 = T.map (fun q => q.2.2.1) ++ j18) (e19 : M19 = T.map (fun q => q.2.2.2.1) ++ j19) (e20 : M20 = T.map (fun q => q.2.2.2.2) ++ j20) (a : Int) (C : Cb t l cX5_isChanged RX5 4 (some .boolean) 1 0 0) {Q : Int → Prop} (hQ : RQ t 0 0 (fun r n' w' => n' = n0 ∧ w' = w ∧ ∃ z : Int, r = some (vi z) ∧ Q z)) (hq : ∀ z, ckP a T S.1 z → Q z) : ∀ (R P : List mP) (k z : Int), S.1 = P ++ R → k = P.length → ckP a T P z → J t 0 0 35 [some (vr h), some (vi a), some (vi z), some (vi k)] [] n0 w := by
  have l7 := hr.l7
  have l8 := hr.l8
  have l9 := hr.l9
  have l10 := hr.l10
  have l11 := hr.l11
  have l12 := hr.l12
  have l13 := hr.l13
  simp only [List.length_append, List.length_map] at l7 l8 l9 l10 l11 l12 l13
  intro R
  induction R with
  | nil =>
    intro P k z hP hk hz
    have hPS : S.1 = P := by rw [hP, List.append_nil]
    have hl : S.1.length = P.length := by rw [hPS]
    refine x_iload_n C dX5_isChanged_35 rfl ?_
    refine x_aload_n C dX5_isChanged_36 rfl ?_
    refine x_get C dX5_isChanged_37 kfX5_117 hr.o rfl ?_
    refine x_icmp_ge (tgt := 88) C dX5_isChanged_40 (by decide) (fun c40 => ?_) (fun c40 => absurd c40 (by omega))
    refine x_iload_n C dX5_isChanged_88 rfl ?_
    refine x_zret C hQ dX5_isChanged_89 (by rcases hz with h9 | h9 <;> omega) (Nat.le_refl _) (Nat.le_refl _) ?_
    exact ⟨rfl, rfl, _, rfl, hq z (by rw [hPS]; exact hz)⟩
  | cons r R ih =>
    intro P k z hP hk hz
    have hl : S.1.length = P.length + (R.length + 1) := by rw [hP]; simp
    have e7 : (S.1.map (fun q => q.1) ++ J7).getD k.toNat 0 = r.1 := by rw [hP]; exact gmap_at _ P R r J7 hk
    have e8 : (S.1.map (fun q => q.2.1) ++ J8).getD k.toNat 0 = r.2.1 := by rw [hP]; exact gmap_at _ P R r J8 hk
    have e9 : (S.1.map (fun q => q.2.2.1) ++ J9).getD k.toNat 0 = r.2.2.1 := by rw [hP]; exact gmap_at _ P R r J9 hk
    have e10 : (S.1.map (fun q => q.2.2.2.1) ++ J10).getD k.toNat 0 = r.2.2.2.1 := by rw [hP]; exact gmap_at _ P R r J10 hk
    have e11 : (S.1.map (fun q => q.2.2.2.2) ++ J11).getD k.toNat 0 = r.2.2.2.2 := by rw [hP]; exact gmap_at _ P R r J11 hk
    refine x_iload_n C dX5_isChanged_35 rfl ?_
    refine x_aload_n C dX5_isChanged_36 rfl ?_
    refine x_get C dX5_isChanged_37 kfX5_117 hr.o rfl ?_
    refine x_icmp_ge (tgt := 88) C dX5_isChanged_40 (by decide) (fun c40 => absurd c40 (by omega)) (fun c40 => ?_)
    refine x_iload_n C dX5_isChanged_43 rfl ?_
    refine x_if_ne (tgt := 76) C dX5_isChanged_44 (by decide) (fun c44 => ?_) (fun c44 => ?_)
    · refine x_iconst C dX5_isChanged_76 ⟨by decide, by decide⟩ ?_
      refine x_goto (tgt := 81) C dX5_isChanged_77 (by decide) ?_
      refine s_ist4_2 C dX5_isChanged_81 rfl ?_
      refine s_inc4_3 C dX5_isChanged_82 rfl (by first | (unfold iR; omega) | exact ⟨by omega, by omega⟩) ?_
      refine x_goto (tgt := 35) C dX5_isChanged_85 (by decide) ?_
      exact ih (P ++ [r]) (k + 1) _ (by rw [hP]; simp) (by simp; omega) (ck_1 hz (by omega))
    · refine x_aload_n C dX5_isChanged_47 rfl ?_
      refine x_get C dX5_isChanged_48 kfX5_44 hr.o rfl ?_
      refine x_iload_n C dX5_isChanged_51 rfl ?_
      refine x_iald C dX5_isChanged_52 hr.a9 (by omega) (by rw [hr.l9]; omega) ?_
      rw [e9]
      refine x_iload_n C dX5_isChanged_53 rfl ?_
      refine x_icmp_ne (tgt := 80) C dX5_isChanged_54 (by decide) (fun c54 => ?_) (fun c54 => ?_)
      · refine x_iconst C dX5_isChanged_80 ⟨by decide, by decide⟩ ?_
        refine s_ist4_2 C dX5_isChanged_81 rfl ?_
        refine s_inc4_3 C dX5_isChanged_82 rfl (by first | (unfold iR; omega) | exact ⟨by omega, by omega⟩) ?_
        refine x_goto (tgt := 35) C dX5_isChanged_85 (by decide) ?_
        exact ih (P ++ [r]) (k + 1) _ (by rw [hP]; simp) (by simp; omega) (ck_3 hz (by omega) (fun h9 => absurd (of_decide_eq_true h9) (by omega)))
      · refine x_aload_n C dX5_isChanged_57 rfl ?_
        refine x_get C dX5_isChanged_58 kfX5_38 hr.o rfl ?_
        refine x_iload_n C dX5_isChanged_61 rfl ?_
        refine x_iald C dX5_isChanged_62 hr.a7 (by omega) (by rw [hr.l7]; omega) ?_
        rw [e7]
        refine x_bipush C dX5_isChanged_63 ⟨by decide, by decide⟩ ?_
        refine x_icmp_eq (tgt := 80) C dX5_isChanged_65 (by decide) (fun c65 => ?_) (fun c65 => ?_)
        · refine x_iconst C dX5_isChanged_80 ⟨by decide, by decide⟩ ?_
          refine s_ist4_2 C dX5_isChanged_81 rfl ?_
          refine s_inc4_3 C dX5_isChanged_82 rfl (by first | (unfold iR; omega) | exact ⟨by omega, by omega⟩) ?_
          refine x_goto (tgt := 35) C dX5_isChanged_85 (by decide) ?_
          exact ih (P ++ [r]) (k + 1) _ (by rw [hP]; simp) (by simp; omega) (ck_3 hz (by omega) (fun h9 => absurd (of_decide_eq_true h9) (by omega)))
        · refine x_aload_n C dX5_isChanged_68 rfl ?_
          refine x_iload_n C dX5_isChanged_69 rfl ?_
          refine y_p1 C dX5_isChanged_70 kyX5_stood knX5_stood kmX5_235 hr.o (c_X5_stood l hr ew e17 e18 e19 e20 k hP hk) (by decide) (Nat.zero_le _) (Nat.zero_le _) (Nat.le_of_ble_eq_true rfl) (fun z70 q70 => ?_)
          refine x_if_ne (tgt := 80) C dX5_isChanged_73 (by decide) (fun c73 => ?_) (fun c73 => ?_)
          · refine x_iconst C dX5_isChanged_80 ⟨by decide, by decide⟩ ?_
            refine s_ist4_2 C dX5_isChanged_81 rfl ?_
            refine s_inc4_3 C dX5_isChanged_82 rfl (by first | (unfold iR; omega) | exact ⟨by omega, by omega⟩) ?_
            refine x_goto (tgt := 35) C dX5_isChanged_85 (by decide) ?_
            exact ih (P ++ [r]) (k + 1) _ (by rw [hP]; simp) (by simp; omega) (ck_3 hz (by omega) (fun _ => (q70.resolve_left (fun h9 => c73 h9.1)).2))
          · refine x_iconst C dX5_isChanged_76 ⟨by decide, by decide⟩ ?_
            refine x_goto (tgt := 81) C dX5_isChanged_77 (by decide) ?_
            refine s_ist4_2 C dX5_isChanged_81 rfl ?_
            refine s_inc4_3 C dX5_isChanged_82 rfl (by first | (unfold iR; omega) | exact ⟨by omega, by omega⟩) ?_
            refine x_goto (tgt := 35) C dX5_isChanged_85 (by decide) ?_
            exact ih (P ++ [r]) (k + 1) _ (by rw [hP]; simp) (by simp; omega) (ck_2 (decide_eq_true ⟨by omega, by omega⟩) (q70.resolve_right (fun h9 => by omega)).2)

set_option maxHeartbeats 1000000 in
set_option maxRecDepth 100000 in
theorem c_X5_isChanged (l : Launch) {w : mW} {h : Nat} {F : mF} {um sm wp wr ac sz ra rn : Int} {M14 M15 M16 M17 M18 M19 M20 M21 M22 M23 : List Int} {S : mScr} {j1 j2 j3 j4 j5 j6 J7 J8 J9 J10 J11 J12 J13 : List Int} (hr : rM w h F.1.1.length F.1.2.1.length F.1.2.2.length F.2.1 F.2.2.1 F.2.2.2.1 F.2.2.2.2 S.1.length ((S.2.length : Int) - 1) (lastC S.2) um sm wp wr ac sz ra rn (F.1.1 ++ j1) (F.1.2.1.map (fun f => f.1) ++ j2) (F.1.2.1.map (fun f => f.2.1) ++ j3) (F.1.2.1.map (fun f => f.2.2) ++ j4) (F.1.2.2.map (fun q => q.1) ++ j5) (F.1.2.2.map (fun q => q.2) ++ j6) (S.1.map (fun q => q.1) ++ J7) (S.1.map (fun q => q.2.1) ++ J8) (S.1.map (fun q => q.2.2.1) ++ J9) (S.1.map (fun q => q.2.2.2.1) ++ J10) (S.1.map (fun q => q.2.2.2.2) ++ J11) (S.2.map (fun q => q.1) ++ J12) (S.2.map (fun q => q.2) ++ J13) M14 M15 M16 M17 M18 M19 M20 M21 M22 M23) {T : List mP} {j17 j18 j19 j20 : List Int} (ew : wp = T.length) (e17 : M17 = T.map (fun q => q.1) ++ j17) (e18 : M18 = T.map (fun q => q.2.2.1) ++ j18) (e19 : M19 = T.map (fun q => q.2.2.2.1) ++ j19) (e20 : M20 = T.map (fun q => q.2.2.2.2) ++ j20) (a : Int) (ha : 0 ≤ a) (hX : (rowL a S.1).Pairwise (fun x y => x.2.1 < y.2.1)) (hT : (rowL a T).Pairwise (fun x y => x.2.1 < y.2.1)) : Cp l yX5_isChanged cX5_isChanged 4 (some .boolean) 1 [vr h, vi a] w (fun z => (z = 0 ∨ z = 1) ∧ (z = 1 ↔ ¬ (a < S.2.length ∧ a < wr ∧ rowL a S.1 = rowL a T))) := by
  refine Cp.of (ml := [some (vr h), some (vi a), none, none]) kyX5_isChanged rfl (Nat.le_of_ble_eq_true rfl) rfl ?_
  intro t n C hQ
  skip
  refine x_iload_n C dX5_isChanged_0 rfl ?_
  refine x_aload_n C dX5_isChanged_1 rfl ?_
  refine x_get C dX5_isChanged_2 kfX5_168 hr.o rfl ?_
  refine x_icmp_ge (tgt := 29) C dX5_isChanged_5 (by decide) (fun c5 => ?_) (fun c5 => ?_)
  · refine x_iconst C dX5_isChanged_29 ⟨by decide, by decide⟩ ?_
    refine x_zret C hQ dX5_isChanged_30 (by first | exact Or.inl rfl | exact Or.inr rfl | omega) (Nat.le_refl _) (Nat.le_refl _) ?_
    exact ⟨rfl, rfl, _, rfl, Or.inr rfl, fun _ h9 => by omega, fun _ => rfl⟩
  · refine x_iload_n C dX5_isChanged_8 rfl ?_
    refine x_aload_n C dX5_isChanged_9 rfl ?_
    refine x_get C dX5_isChanged_10 kfX5_144 hr.o rfl ?_
    refine x_icmp_gt (tgt := 29) C dX5_isChanged_13 (by decide) (fun c13 => ?_) (fun c13 => ?_)
    · refine x_iconst C dX5_isChanged_29 ⟨by decide, by decide⟩ ?_
      refine x_zret C hQ dX5_isChanged_30 (by first | exact Or.inl rfl | exact Or.inr rfl | omega) (Nat.le_refl _) (Nat.le_refl _) ?_
      exact ⟨rfl, rfl, _, rfl, Or.inr rfl, fun _ h9 => by omega, fun _ => rfl⟩
    · refine x_aload_n C dX5_isChanged_16 rfl ?_
      refine x_iload_n C dX5_isChanged_17 rfl ?_
      refine y_p1 C dX5_isChanged_18 kyX5_nowMany knX5_nowMany kmX5_229 hr.o (c_X5_nowMany l hr a) (by decide) (Nat.zero_le _) (Nat.zero_le _) (Nat.le_of_ble_eq_true rfl) (fun z18 q18 => ?_)
      refine x_aload_n C dX5_isChanged_21 rfl ?_
      refine x_iload_n C dX5_isChanged_22 rfl ?_
      refine y_p1 C dX5_isChanged_23 kyX5_wereMany knX5_wereMany kmX5_232 hr.o (c_X5_wereMany l hr ew e17 e18 e19 e20 a) (by decide) (Nat.zero_le _) (Nat.zero_le _) (Nat.le_of_ble_eq_true rfl) (fun z23 q23 => ?_)
      refine x_icmp_eq (tgt := 31) C dX5_isChanged_26 (by decide) (fun c26 => ?_) (fun c26 => ?_)
      · refine x_iconst C dX5_isChanged_31 ⟨by decide, by decide⟩ ?_
        refine s_ist4_2 C dX5_isChanged_32 rfl ?_
        refine x_iconst C dX5_isChanged_33 ⟨by decide, by decide⟩ ?_
        refine s_ist4_3 C dX5_isChanged_34 rfl ?_
        refine lp_X5_isChanged hr ew e17 e18 e19 e20 a C hQ (fun z hz => ?_) S.1 [] 0 0 rfl rfl (Or.inl ⟨rfl, fun y hy => by simp at hy⟩)
        have hrs := row_same hX hT (by omega)
        rcases hz with ⟨h8, h9⟩ | ⟨h8, x, hx, h6, h7⟩
        · exact ⟨Or.inl h8, fun h5 => by omega, fun h5 => absurd ⟨by omega, by omega, hrs.mpr h9⟩ h5⟩
        · exact ⟨Or.inr h8, fun _ h5 => by obtain ⟨y, hy, hs⟩ := hrs.mp h5.2.2 x hx h6; exact h7 y hy hs, fun _ => h8⟩
      · refine x_iconst C dX5_isChanged_29 ⟨by decide, by decide⟩ ?_
        refine x_zret C hQ dX5_isChanged_30 (by first | exact Or.inl rfl | exact Or.inr rfl | omega) (Nat.le_refl _) (Nat.le_refl _) ?_
        exact ⟨rfl, rfl, _, rfl, Or.inr rfl, fun _ h9 => by
          have h8 := congrArg List.length h9.2.2
          unfold rowL at h8
          rw [List.length_map, List.length_map] at h8
          omega, fun _ => rfl⟩

set_option maxHeartbeats 1000000 in
set_option maxRecDepth 100000 in
theorem lp_X5_changed {t : TX} {l : Launch} {n0 : Nat} {w : mW} {h : Nat} {D : mD} {um sm wp wr ac sz ra rn : Int} {M14 M15 M16 M17 M18 M19 M20 M21 M22 M23 : List Int} {j1 j2 j3 j4 j5 j6 J7 J8 J9 J10 J11 J12 J13 : List Int} (hr : rM w h D.F.1.1.length D.F.1.2.1.length D.F.1.2.2.length D.F.2.1 D.F.2.2.1 D.F.2.2.2.1 D.F.2.2.2.2 (scr D.F).1.length (((scr D.F).2.length : Int) - 1) (lastC (scr D.F).2) um sm wp wr ac sz ra rn (D.F.1.1 ++ j1) (D.F.1.2.1.map (fun f => f.1) ++ j2) (D.F.1.2.1.map (fun f => f.2.1) ++ j3) (D.F.1.2.1.map (fun f => f.2.2) ++ j4) (D.F.1.2.2.map (fun q => q.1) ++ j5) (D.F.1.2.2.map (fun q => q.2) ++ j6) ((scr D.F).1.map (fun q => q.1) ++ J7) ((scr D.F).1.map (fun q => q.2.1) ++ J8) ((scr D.F).1.map (fun q => q.2.2.1) ++ J9) ((scr D.F).1.map (fun q => q.2.2.2.1) ++ J10) ((scr D.F).1.map (fun q => q.2.2.2.2) ++ J11) ((scr D.F).2.map (fun q => q.1) ++ J12) ((scr D.F).2.map (fun q => q.2) ++ J13) M14 M15 M16 M17 M18 M19 M20 M21 M22 M23) (hD : wfD D) (hO : wereO wp wr ac M17 M18 M19 M20 D.O) (hc90 : chM D ≤ 1000) {p : Int} (hp : p = 0 ∨ p = 1) (C : Cb t l cX5_changed RX5 5 (some .int) 4 0 0) {Q : Int → mW → Prop} (hQ : RQ t 0 0 (fun r n' w' => n' = n0 ∧ ∃ z : Int, r = some (vi z) ∧ Q z w')) (hq : ∀ z, z = q_changed D p → Q z w) : ∀ (m i : Nat) (f c v : Int), v = (i : Int) → i + m = chM D → f = fN (chP D) i → c = cN (chP D) i → J t 0 0 23 [some (vr h), some (vi p), some (vi f), some (vi c), some (vi v)] [] n0 w := by
  have l7 := hr.l7
  have l8 := hr.l8
  have l9 := hr.l9
  have l10 := hr.l10
  have l11 := hr.l11
  have l12 := hr.l12
  have l13 := hr.l13
  simp only [List.length_append, List.length_map] at l7 l8 l9 l10 l11 l12 l13
  obtain ⟨f1, f2, f3, f4, f5, f6, f7, f8, f9, f10, f11, f12⟩ := id hD.2.1
  intro m
  induction m with
  | zero =>
    intro i f c v hv hm hff hcc
    cases hOO : D.O with
    | none =>
      rw [hOO] at hO
      have hac : ac = 0 := hO
      refine x_aload_n C dX5_changed_23 rfl ?_
      refine x_get C dX5_changed_24 kfX5_171 hr.o rfl ?_
      refine x_if_eq (tgt := 77) C dX5_changed_27 (by decide) (fun c27 => ?_) (fun c27 => absurd c27 (by omega))
      refine x_iload_n C dX5_changed_77 rfl ?_
      refine x_if_ne (tgt := 85) C dX5_changed_78 (by decide) (fun c78 => ?_) (fun c78 => ?_)
      · refine x_iload_n C dX5_changed_85 rfl ?_
        refine x_iret C hQ dX5_changed_86 (Nat.le_refl _) (Nat.le_refl _) ?_
        exact ⟨rfl, _, rfl, hq _ (by rw [q_changed, if_neg (by omega), if_pos (by omega), show chM D = i by omega]; exact hcc)⟩
      · refine x_iload_n C dX5_changed_81 rfl ?_
        refine x_goto (tgt := 86) C dX5_changed_82 (by decide) ?_
        refine x_iret C hQ dX5_changed_86 (Nat.le_refl _) (Nat.le_refl _) ?_
        exact ⟨rfl, _, rfl, hq _ (by rw [q_changed, if_pos (by omega), show chM D = i by omega]; exact hff)⟩
    | some G =>
      rw [hOO] at hO
      obtain ⟨hac, ew, ewr, j17, j18, j19, j20, e17, e18, e19, e20⟩ := hO
      have hch : chM D = max (scr D.F).2.length (scr G).2.length := by unfold chM; rw [hOO]
      refine x_aload_n C dX5_changed_23 rfl ?_
      refine x_get C dX5_changed_24 kfX5_171 hr.o rfl ?_
      refine x_if_eq (tgt := 77) C dX5_changed_27 (by decide) (fun c27 => absurd c27 (by omega)) (fun c27 => ?_)
      refine x_iload C dX5_changed_30 rfl ?_
      refine x_aload_n C dX5_changed_32 rfl ?_
      refine x_get C dX5_changed_33 kfX5_168 hr.o rfl ?_
      refine x_icmp_lt (tgt := 48) C dX5_changed_36 (by decide) (fun c36 => absurd c36 (by omega)) (fun c36 => ?_)
      refine x_iload C dX5_changed_39 rfl ?_
      refine x_aload_n C dX5_changed_41 rfl ?_
      refine x_get C dX5_changed_42 kfX5_144 hr.o rfl ?_
      refine x_icmp_gt (tgt := 77) C dX5_changed_45 (by decide) (fun c45 => ?_) (fun c45 => absurd c45 (by omega))
      refine x_iload_n C dX5_changed_77 rfl ?_
      refine x_if_ne (tgt := 85) C dX5_changed_78 (by decide) (fun c78 => ?_) (fun c78 => ?_)
      · refine x_iload_n C dX5_changed_85 rfl ?_
        refine x_iret C hQ dX5_changed_86 (Nat.le_refl _) (Nat.le_refl _) ?_
        exact ⟨rfl, _, rfl, hq _ (by rw [q_changed, if_neg (by omega), if_pos (by omega), show chM D = i by omega]; exact hcc)⟩
      · refine x_iload_n C dX5_changed_81 rfl ?_
        refine x_goto (tgt := 86) C dX5_changed_82 (by decide) ?_
        refine x_iret C hQ dX5_changed_86 (Nat.le_refl _) (Nat.le_refl _) ?_
        exact ⟨rfl, _, rfl, hq _ (by rw [q_changed, if_pos (by omega), show chM D = i by omega]; exact hff)⟩
  | succ m ih =>
    intro i f c v hv hm hff hcc
    have hcn := cN_nn (chP D) i
    have hcf := cf0 (chP D) i
    obtain ⟨G, hOO⟩ : ∃ G, D.O = some G := by
      cases hO9 : D.O with
      | none => unfold chM at hm; rw [hO9] at hm; simp at hm
      | some G => exact ⟨G, rfl⟩
    have hO9 := hO
    rw [hOO] at hO9
    obtain ⟨hac, ew, ewr, j17, j18, j19, j20, e17, e18, e19, e20⟩ := hO9
    have hch : chM D = max (scr D.F).2.length (scr G).2.length := by unfold chM; rw [hOO]
    have hwG := hD.2.2.2.2 G hOO
    refine x_aload_n C dX5_changed_23 rfl ?_
    refine x_get C dX5_changed_24 kfX5_171 hr.o rfl ?_
    refine x_if_eq (tgt := 77) C dX5_changed_27 (by decide) (fun c27 => absurd c27 (by omega)) (fun c27 => ?_)
    refine x_iload C dX5_changed_30 rfl ?_
    refine x_aload_n C dX5_changed_32 rfl ?_
    refine x_get C dX5_changed_33 kfX5_168 hr.o rfl ?_
    refine x_icmp_lt (tgt := 48) C dX5_changed_36 (by decide) (fun c36 => ?_) (fun c36 => ?_)
    · refine x_aload_n C dX5_changed_48 rfl ?_
      refine x_iload C dX5_changed_49 rfl ?_
      refine y_p1 C dX5_changed_51 kyX5_isChanged knX5_isChanged kmX5_238 hr.o (c_X5_isChanged l hr ew e17 e18 e19 e20 v (by omega) (rowL_pw hD.2.1 v) (rowL_pw hwG v)) (by decide) (Nat.zero_le _) (Nat.zero_le _) (Nat.le_of_ble_eq_true rfl) (fun z51 q51 => ?_)
      have hP : chP D i = true ↔ z51 = 1 := by
        have e0 : chP D i = chg (scr D.F) (scr G) i := by unfold chP; rw [hOO]
        rw [e0, q51.2]
        unfold chg
        rw [Bool.not_eq_true', decide_eq_false_iff_not, hv]
        constructor
        · intro h9 h8; exact h9 ⟨by omega, by omega, h8.2.2⟩
        · intro h9 h8; exact h9 ⟨by omega, by omega, h8.2.2⟩
      refine x_if_eq (tgt := 71) C dX5_changed_54 (by decide) (fun c54 => ?_) (fun c54 => ?_)
      · refine s_inc5_4 C dX5_changed_71 rfl (by first | (unfold iR; omega) | exact ⟨by omega, by omega⟩) ?_
        refine x_goto (tgt := 23) C dX5_changed_74 (by decide) ?_
        exact ih (i + 1) _ _ _ (by omega) (by omega) (by rw [fN, if_neg (fun h9 => by have := hP.mp h9.2; omega)]; exact hff) (by rw [cN, if_neg (fun h9 => by have := hP.mp h9; omega)]; omega)
      · refine x_iload_n C dX5_changed_57 rfl ?_
        refine x_if_ne (tgt := 66) C dX5_changed_58 (by decide) (fun c58 => ?_) (fun c58 => ?_)
        · refine x_iload_n C dX5_changed_66 rfl ?_
          refine s_ist5_2 C dX5_changed_67 rfl ?_
          refine s_inc5_3 C dX5_changed_68 rfl (by first | (unfold iR; omega) | exact ⟨by omega, by omega⟩) ?_
          refine s_inc5_4 C dX5_changed_71 rfl (by first | (unfold iR; omega) | exact ⟨by omega, by omega⟩) ?_
          refine x_goto (tgt := 23) C dX5_changed_74 (by decide) ?_
          exact ih (i + 1) _ _ _ (by omega) (by omega) (by rw [fN, if_neg (fun h9 => by omega)]; exact hff) (by rw [cN, if_pos (hP.mpr (by omega))]; omega)
        · refine x_iload C dX5_changed_61 rfl ?_
          refine x_goto (tgt := 67) C dX5_changed_63 (by decide) ?_
          refine s_ist5_2 C dX5_changed_67 rfl ?_
          refine s_inc5_3 C dX5_changed_68 rfl (by first | (unfold iR; omega) | exact ⟨by omega, by omega⟩) ?_
          refine s_inc5_4 C dX5_changed_71 rfl (by first | (unfold iR; omega) | exact ⟨by omega, by omega⟩) ?_
          refine x_goto (tgt := 23) C dX5_changed_74 (by decide) ?_
          exact ih (i + 1) _ _ _ (by omega) (by omega) (by rw [fN, if_pos ⟨by omega, hP.mpr (by omega)⟩]; exact hv) (by rw [cN, if_pos (hP.mpr (by omega))]; omega)
    · refine x_iload C dX5_changed_39 rfl ?_
      refine x_aload_n C dX5_changed_41 rfl ?_
      refine x_get C dX5_changed_42 kfX5_144 hr.o rfl ?_
      refine x_icmp_gt (tgt := 77) C dX5_changed_45 (by decide) (fun c45 => absurd c45 (by omega)) (fun c45 => ?_)
      refine x_aload_n C dX5_changed_48 rfl ?_
      refine x_iload C dX5_changed_49 rfl ?_
      refine y_p1 C dX5_changed_51 kyX5_isChanged knX5_isChanged kmX5_238 hr.o (c_X5_isChanged l hr ew e17 e18 e19 e20 v (by omega) (rowL_pw hD.2.1 v) (rowL_pw hwG v)) (by decide) (Nat.zero_le _) (Nat.zero_le _) (Nat.le_of_ble_eq_true rfl) (fun z51 q51 => ?_)
      have hP : chP D i = true ↔ z51 = 1 := by
        have e0 : chP D i = chg (scr D.F) (scr G) i := by unfold chP; rw [hOO]
        rw [e0, q51.2]
        unfold chg
        rw [Bool.not_eq_true', decide_eq_false_iff_not, hv]
        constructor
        · intro h9 h8; exact h9 ⟨by omega, by omega, h8.2.2⟩
        · intro h9 h8; exact h9 ⟨by omega, by omega, h8.2.2⟩
      refine x_if_eq (tgt := 71) C dX5_changed_54 (by decide) (fun c54 => ?_) (fun c54 => ?_)
      · refine s_inc5_4 C dX5_changed_71 rfl (by first | (unfold iR; omega) | exact ⟨by omega, by omega⟩) ?_
        refine x_goto (tgt := 23) C dX5_changed_74 (by decide) ?_
        exact ih (i + 1) _ _ _ (by omega) (by omega) (by rw [fN, if_neg (fun h9 => by have := hP.mp h9.2; omega)]; exact hff) (by rw [cN, if_neg (fun h9 => by have := hP.mp h9; omega)]; omega)
      · refine x_iload_n C dX5_changed_57 rfl ?_
        refine x_if_ne (tgt := 66) C dX5_changed_58 (by decide) (fun c58 => ?_) (fun c58 => ?_)
        · refine x_iload_n C dX5_changed_66 rfl ?_
          refine s_ist5_2 C dX5_changed_67 rfl ?_
          refine s_inc5_3 C dX5_changed_68 rfl (by first | (unfold iR; omega) | exact ⟨by omega, by omega⟩) ?_
          refine s_inc5_4 C dX5_changed_71 rfl (by first | (unfold iR; omega) | exact ⟨by omega, by omega⟩) ?_
          refine x_goto (tgt := 23) C dX5_changed_74 (by decide) ?_
          exact ih (i + 1) _ _ _ (by omega) (by omega) (by rw [fN, if_neg (fun h9 => by omega)]; exact hff) (by rw [cN, if_pos (hP.mpr (by omega))]; omega)
        · refine x_iload C dX5_changed_61 rfl ?_
          refine x_goto (tgt := 67) C dX5_changed_63 (by decide) ?_
          refine s_ist5_2 C dX5_changed_67 rfl ?_
          refine s_inc5_3 C dX5_changed_68 rfl (by first | (unfold iR; omega) | exact ⟨by omega, by omega⟩) ?_
          refine s_inc5_4 C dX5_changed_71 rfl (by first | (unfold iR; omega) | exact ⟨by omega, by omega⟩) ?_
          refine x_goto (tgt := 23) C dX5_changed_74 (by decide) ?_
          exact ih (i + 1) _ _ _ (by omega) (by omega) (by rw [fN, if_pos ⟨by omega, hP.mpr (by omega)⟩]; exact hv) (by rw [cN, if_pos (hP.mpr (by omega))]; omega)

theorem chM_b {D : mD} (hD : wfD D) : chM D ≤ 90 := by
  unfold chM
  cases hO : D.O with
  | none => simp
  | some G =>
    have h1 := scr_len hD.2.1
    have h2 := scr_len (hD.2.2.2.2 G hO)
    simp only
    omega

set_option maxHeartbeats 1000000 in
set_option maxRecDepth 100000 in
theorem c_X5_changed (l : Launch) {w : mW} {h : Nat} {D : mD} (hM : isM w h D) (hD : wfD D) (p : Int) : Ci l yX5_changed cX5_changed 5 (some .int) 4 [vr h, vi p] w (fun z w' => z = q_changed D p ∧ isM w' h D ∧ frR w w' h (h + 23)) := by
  refine Ci.of (ml := [some (vr h), some (vi p), none, none, none]) kyX5_changed rfl (Nat.le_of_ble_eq_true rfl) rfl ?_
  intro t n C hQ
  have hM2 := hM
  obtain ⟨wp, wr, ac, ra, rn, M14, M15, M16, M17, M18, M19, M20, M21, M22, M23, hN, hU, hK, hlU, hlK, ⟨jt, ht⟩, hO⟩ := hM
  have hfA : frR w w h (h + 23) := frR.rf
  have hN2 := hN
  obtain ⟨j1, j2, j3, j4, j5, j6, pi, lr, lc, M7, M8, M9, M10, M11, M12, M13, hr⟩ := hN
  obtain ⟨f1, f2, f3, f4, f5, f6, f7, f8, f9, f10, f11, f12⟩ := id hD.2.1
  have hw : ∀ f ∈ D.F.1.2.1, (0 ≤ f.1 ∧ f.1 ≤ 100) ∧ (0 ≤ f.2.1 ∧ f.2.1 ≤ 100) ∧ (f.2.2 = 0 ∨ f.2.2 = 1) := fun f hf9 => by have := f4 f hf9; omega
  have hsm := hD.2.1.sm
  have hwT := (wfF_iff D.F).mp hD.2.1
  refine x_iload_n C dX5_changed_0 rfl ?_
  refine x_iconst C dX5_changed_1 ⟨by decide, by decide⟩ ?_
  refine x_iconst C dX5_changed_2 ⟨by decide, by decide⟩ ?_
  refine z_p3 C dX5_changed_3 kyX5_in ksX5_in kmX5_103 (c_X5_in l p 0 1) (by decide) (Nat.zero_le _) (Nat.zero_le _) (Nat.le_of_ble_eq_true rfl) (fun z3 q3 => ?_)
  refine x_if_ne (tgt := 11) C dX5_changed_6 (by decide) (fun c6 => ?_) (fun c6 => ?_)
  · refine x_aload_n C dX5_changed_11 rfl ?_
    refine y_v0 C dX5_changed_12 kyX5_setScreen knX5_setScreen kmX5_150 hr.o (c_X5_setScreen l hN2 hD.2.1) (by decide) (Nat.zero_le _) (Nat.zero_le _) (Nat.le_of_ble_eq_true rfl) (fun w12 q12 => ?_)
    obtain ⟨hNs, hf9⟩ := q12
    have hfA := hfA.tr hf9
    have hN2 := hNs.n
    obtain ⟨j1, j2, j3, j4, j5, j6, J7, J8, J9, J10, J11, J12, J13, hr⟩ := id hNs
    have l7 := hr.l7
    have l8 := hr.l8
    have l9 := hr.l9
    have l10 := hr.l10
    have l11 := hr.l11
    have l12 := hr.l12
    have l13 := hr.l13
    simp only [List.length_append, List.length_map] at l7 l8 l9 l10 l11 l12 l13
    refine x_bipush C dX5_changed_15 ⟨by decide, by decide⟩ ?_
    refine s_ist5_2 C dX5_changed_17 rfl ?_
    refine x_iconst C dX5_changed_18 ⟨by decide, by decide⟩ ?_
    refine s_ist5_3 C dX5_changed_19 rfl ?_
    refine x_iconst C dX5_changed_20 ⟨by decide, by decide⟩ ?_
    refine s_is5_4 C dX5_changed_21 rfl ?_
    have hcb := chM_b hD
    exact lp_X5_changed hr hD hO (by omega) (by omega) C hQ (fun z hz => ⟨hz, ⟨_, _, _, _, _, _, _, _, _, _, _, _, _, _, _, hN2, hU, hK, hlU, hlK, ⟨jt, ht⟩, hO⟩, hfA⟩) (chM D) 0 _ _ _ rfl (Nat.zero_add _) rfl rfl
  · refine x_iconst C dX5_changed_9 ⟨by decide, by decide⟩ ?_
    refine x_iret C hQ dX5_changed_10 (Nat.le_refl _) (Nat.le_refl _) ?_
    exact ⟨rfl, _, rfl, by rw [q_changed, if_neg (by omega), if_neg (by omega)], hM2, frR.rf⟩
