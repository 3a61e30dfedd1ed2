/-! ===== DisplayMap.Screen: rows compared; DisplayMap.Pile ===== -/
def rowL (r : Int) (l : List mP) : List (Int × Int × Int) := (l.filter (pR r)).map (fun q => (q.1, q.2.2.2.1, q.2.2.2.2))
theorem rowL_neg {r : Int} {l : List mP} {k : Nat} (h : fIdx (pR r) l k < 0) : rowL r l = [] := by
  have h1 := (fIdx_neg (pR r) l k (by omega)).1.mp h
  unfold rowL
  rw [List.filter_eq_nil_iff.mpr (fun x hx => by rw [h1 x hx]; decide)]
  rfl
theorem rowL_pos {r : Int} {l : List mP} {k : Nat} (h : 0 ≤ fIdx (pR r) l k) : ∃ (P R : List mP) (x : mP), l = P ++ x :: R ∧ fIdx (pR r) l k = k + P.length ∧ rowL r l = (x.1, x.2.2.2.1, x.2.2.2.2) :: rowL r R := by
  obtain ⟨P, R, x, h1, h2, h3, h4⟩ := fIdx_at (pR r) l k (by omega) h
  refine ⟨P, R, x, h1, h4, ?_⟩
  unfold rowL
  rw [h1, List.filter_append, List.filter_eq_nil_iff.mpr (fun y hy => by rw [h3 y hy]; decide), List.nil_append, List.filter_cons_of_pos h2]
  rfl

set_option maxHeartbeats 4000000 in
set_option maxRecDepth 100000 in
theorem lp_X1_isRowAsIn {t : TX} {l : Launch} {n0 : Nat} {w : mW} {h : Nat} {pl : List mP} {rows : List (Int × Int)} (hS : isSc w h pl rows) {v : Nat} {pl2 : List mP} {rows2 : List (Int × Int)} (hS2 : isSc w v pl2 rows2) (a : Int) (C : Cb t l cX1_isRowAsIn RX1 6 (some .boolean) 1 0 0) {Q : Int → Prop} (hQ : RQ t 0 0 (fun r n' w' => n' = n0 ∧ w' = w ∧ ∃ z : Int, r = some (vi z) ∧ Q z)) : ∀ (m : Nat) (P R P2 R2 : List mP) (c mine theirs : Int), R.length < m → pl = P ++ R → pl2 = P2 ++ R2 → mine = fIdx (pR a) R P.length → theirs = fIdx (pR a) R2 P2.length → (0 ≤ c ∧ c + R.length ≤ 44) → (∀ z, ((z = 0 ∨ z = 1) ∧ (z = 1 ↔ rowL a R = rowL a R2)) → Q z) → J t 0 0 36 [some (vr h), some (vr v), some (vi a), some (vi mine), some (vi theirs), some (vi c)] [] n0 w := by
  have hSa := hS
  have hSb := hS2
  have hlen := hS.len
  have hlen2 := hS2.len
  obtain ⟨J1, J2, J3, J4, J5, J6, J7, hr⟩ := hS
  obtain ⟨K1, K2, K3, K4, K5, K6, K7, hv⟩ := hS2
  intro m
  induction m with
  | zero => intro P R P2 R2 c mine theirs hm; omega
  | succ m ih =>
    intro P R P2 R2 c mine theirs hm hP hP2 e1 e2 hc hq
    have hl : pl.length = P.length + R.length := by rw [hP]; simp
    have hl2 : pl2.length = P2.length + R2.length := by rw [hP2]; simp
    refine x_iload C dX1_isRowAsIn_36 rfl ?_
    refine x_bipush C dX1_isRowAsIn_38 ⟨by decide, by decide⟩ ?_
    refine x_icmp_ge (tgt := 91) C dX1_isRowAsIn_40 (by decide) (fun c40 => ?_) (fun c40 => ?_)
    · refine x_iload_n C dX1_isRowAsIn_91 rfl ?_
      refine x_if_ge (tgt := 104) C dX1_isRowAsIn_92 (by decide) (fun c92 => ?_) (fun c92 => ?_)
      · refine x_iconst C dX1_isRowAsIn_104 ⟨by decide, by decide⟩ ?_
        refine x_zret C hQ dX1_isRowAsIn_105 (by first | exact Or.inl rfl | exact Or.inr rfl | omega) (Nat.le_refl _) (Nat.le_refl _) ?_
        refine ⟨rfl, rfl, _, rfl, hq _ ⟨by omega, ?_⟩⟩
        have hz : c < 44 ∨ mine < 0 := by
          rcases Int.lt_or_le c 44 with h9 | h9
          · exact Or.inl h9
          · have hR0 : R = [] := List.eq_nil_of_length_eq_zero (by omega)
            subst hR0
            simp [fIdx] at e1
            omega
        rcases Int.lt_or_le mine 0 with h5 | h5 <;> rcases Int.lt_or_le theirs 0 with h6 | h6
        · rw [rowL_neg (r := a) (l := R) (k := P.length) (by omega), rowL_neg (r := a) (l := R2) (k := P2.length) (by omega)]
          first | omega | simp
        · obtain ⟨X2, R4, y, hR2, hk2, hrl2⟩ := rowL_pos (r := a) (l := R2) (k := P2.length) (by omega)
          rw [rowL_neg (r := a) (l := R) (k := P.length) (by omega), hrl2]
          first | omega | simp
        · obtain ⟨X1, R3, x, hR, hk, hrl⟩ := rowL_pos (r := a) (l := R) (k := P.length) (by omega)
          rw [rowL_neg (r := a) (l := R2) (k := P2.length) (by omega), hrl]
          first | omega | simp
        · omega
      · refine x_iload C dX1_isRowAsIn_95 rfl ?_
        refine x_if_ge (tgt := 104) C dX1_isRowAsIn_97 (by decide) (fun c97 => ?_) (fun c97 => ?_)
        · refine x_iconst C dX1_isRowAsIn_104 ⟨by decide, by decide⟩ ?_
          refine x_zret C hQ dX1_isRowAsIn_105 (by first | exact Or.inl rfl | exact Or.inr rfl | omega) (Nat.le_refl _) (Nat.le_refl _) ?_
          refine ⟨rfl, rfl, _, rfl, hq _ ⟨by omega, ?_⟩⟩
          have hz : c < 44 ∨ mine < 0 := by
            rcases Int.lt_or_le c 44 with h9 | h9
            · exact Or.inl h9
            · have hR0 : R = [] := List.eq_nil_of_length_eq_zero (by omega)
              subst hR0
              simp [fIdx] at e1
              omega
          rcases Int.lt_or_le mine 0 with h5 | h5 <;> rcases Int.lt_or_le theirs 0 with h6 | h6
          · rw [rowL_neg (r := a) (l := R) (k := P.length) (by omega), rowL_neg (r := a) (l := R2) (k := P2.length) (by omega)]
            first | omega | simp
          · obtain ⟨X2, R4, y, hR2, hk2, hrl2⟩ := rowL_pos (r := a) (l := R2) (k := P2.length) (by omega)
            rw [rowL_neg (r := a) (l := R) (k := P.length) (by omega), hrl2]
            first | omega | simp
          · obtain ⟨X1, R3, x, hR, hk, hrl⟩ := rowL_pos (r := a) (l := R) (k := P.length) (by omega)
            rw [rowL_neg (r := a) (l := R2) (k := P2.length) (by omega), hrl]
            first | omega | simp
          · omega
        · refine x_iconst C dX1_isRowAsIn_100 ⟨by decide, by decide⟩ ?_
          refine x_goto (tgt := 105) C dX1_isRowAsIn_101 (by decide) ?_
          refine x_zret C hQ dX1_isRowAsIn_105 (by first | exact Or.inl rfl | exact Or.inr rfl | omega) (Nat.le_refl _) (Nat.le_refl _) ?_
          refine ⟨rfl, rfl, _, rfl, hq _ ⟨by omega, ?_⟩⟩
          have hz : c < 44 ∨ mine < 0 := by
            rcases Int.lt_or_le c 44 with h9 | h9
            · exact Or.inl h9
            · have hR0 : R = [] := List.eq_nil_of_length_eq_zero (by omega)
              subst hR0
              simp [fIdx] at e1
              omega
          rcases Int.lt_or_le mine 0 with h5 | h5 <;> rcases Int.lt_or_le theirs 0 with h6 | h6
          · rw [rowL_neg (r := a) (l := R) (k := P.length) (by omega), rowL_neg (r := a) (l := R2) (k := P2.length) (by omega)]
            first | omega | simp
          · obtain ⟨X2, R4, y, hR2, hk2, hrl2⟩ := rowL_pos (r := a) (l := R2) (k := P2.length) (by omega)
            rw [rowL_neg (r := a) (l := R) (k := P.length) (by omega), hrl2]
            first | omega | simp
          · obtain ⟨X1, R3, x, hR, hk, hrl⟩ := rowL_pos (r := a) (l := R) (k := P.length) (by omega)
            rw [rowL_neg (r := a) (l := R2) (k := P2.length) (by omega), hrl]
            first | omega | simp
          · omega
    · refine x_iload_n C dX1_isRowAsIn_43 rfl ?_
      refine x_if_lt (tgt := 91) C dX1_isRowAsIn_44 (by decide) (fun c44 => ?_) (fun c44 => ?_)
      · refine x_iload_n C dX1_isRowAsIn_91 rfl ?_
        refine x_if_ge (tgt := 104) C dX1_isRowAsIn_92 (by decide) (fun c92 => ?_) (fun c92 => ?_)
        · refine x_iconst C dX1_isRowAsIn_104 ⟨by decide, by decide⟩ ?_
          refine x_zret C hQ dX1_isRowAsIn_105 (by first | exact Or.inl rfl | exact Or.inr rfl | omega) (Nat.le_refl _) (Nat.le_refl _) ?_
          refine ⟨rfl, rfl, _, rfl, hq _ ⟨by omega, ?_⟩⟩
          have hz : c < 44 ∨ mine < 0 := by
            rcases Int.lt_or_le c 44 with h9 | h9
            · exact Or.inl h9
            · have hR0 : R = [] := List.eq_nil_of_length_eq_zero (by omega)
              subst hR0
              simp [fIdx] at e1
              omega
          rcases Int.lt_or_le mine 0 with h5 | h5 <;> rcases Int.lt_or_le theirs 0 with h6 | h6
          · rw [rowL_neg (r := a) (l := R) (k := P.length) (by omega), rowL_neg (r := a) (l := R2) (k := P2.length) (by omega)]
            first | omega | simp
          · obtain ⟨X2, R4, y, hR2, hk2, hrl2⟩ := rowL_pos (r := a) (l := R2) (k := P2.length) (by omega)
            rw [rowL_neg (r := a) (l := R) (k := P.length) (by omega), hrl2]
            first | omega | simp
          · obtain ⟨X1, R3, x, hR, hk, hrl⟩ := rowL_pos (r := a) (l := R) (k := P.length) (by omega)
            rw [rowL_neg (r := a) (l := R2) (k := P2.length) (by omega), hrl]
            first | omega | simp
          · omega
        · refine x_iload C dX1_isRowAsIn_95 rfl ?_
          refine x_if_ge (tgt := 104) C dX1_isRowAsIn_97 (by decide) (fun c97 => ?_) (fun c97 => ?_)
          · refine x_iconst C dX1_isRowAsIn_104 ⟨by decide, by decide⟩ ?_
            refine x_zret C hQ dX1_isRowAsIn_105 (by first | exact Or.inl rfl | exact Or.inr rfl | omega) (Nat.le_refl _) (Nat.le_refl _) ?_
            refine ⟨rfl, rfl, _, rfl, hq _ ⟨by omega, ?_⟩⟩
            have hz : c < 44 ∨ mine < 0 := by
              rcases Int.lt_or_le c 44 with h9 | h9
              · exact Or.inl h9
              · have hR0 : R = [] := List.eq_nil_of_length_eq_zero (by omega)
                subst hR0
                simp [fIdx] at e1
                omega
            rcases Int.lt_or_le mine 0 with h5 | h5 <;> rcases Int.lt_or_le theirs 0 with h6 | h6
            · rw [rowL_neg (r := a) (l := R) (k := P.length) (by omega), rowL_neg (r := a) (l := R2) (k := P2.length) (by omega)]
              first | omega | simp
            · obtain ⟨X2, R4, y, hR2, hk2, hrl2⟩ := rowL_pos (r := a) (l := R2) (k := P2.length) (by omega)
              rw [rowL_neg (r := a) (l := R) (k := P.length) (by omega), hrl2]
              first | omega | simp
            · obtain ⟨X1, R3, x, hR, hk, hrl⟩ := rowL_pos (r := a) (l := R) (k := P.length) (by omega)
              rw [rowL_neg (r := a) (l := R2) (k := P2.length) (by omega), hrl]
              first | omega | simp
            · omega
          · refine x_iconst C dX1_isRowAsIn_100 ⟨by decide, by decide⟩ ?_
            refine x_goto (tgt := 105) C dX1_isRowAsIn_101 (by decide) ?_
            refine x_zret C hQ dX1_isRowAsIn_105 (by first | exact Or.inl rfl | exact Or.inr rfl | omega) (Nat.le_refl _) (Nat.le_refl _) ?_
            refine ⟨rfl, rfl, _, rfl, hq _ ⟨by omega, ?_⟩⟩
            have hz : c < 44 ∨ mine < 0 := by
              rcases Int.lt_or_le c 44 with h9 | h9
              · exact Or.inl h9
              · have hR0 : R = [] := List.eq_nil_of_length_eq_zero (by omega)
                subst hR0
                simp [fIdx] at e1
                omega
            rcases Int.lt_or_le mine 0 with h5 | h5 <;> rcases Int.lt_or_le theirs 0 with h6 | h6
            · rw [rowL_neg (r := a) (l := R) (k := P.length) (by omega), rowL_neg (r := a) (l := R2) (k := P2.length) (by omega)]
              first | omega | simp
            · obtain ⟨X2, R4, y, hR2, hk2, hrl2⟩ := rowL_pos (r := a) (l := R2) (k := P2.length) (by omega)
              rw [rowL_neg (r := a) (l := R) (k := P.length) (by omega), hrl2]
              first | omega | simp
            · obtain ⟨X1, R3, x, hR, hk, hrl⟩ := rowL_pos (r := a) (l := R) (k := P.length) (by omega)
              rw [rowL_neg (r := a) (l := R2) (k := P2.length) (by omega), hrl]
              first | omega | simp
            · omega
      · refine x_iload C dX1_isRowAsIn_47 rfl ?_
        refine x_if_lt (tgt := 91) C dX1_isRowAsIn_49 (by decide) (fun c49 => ?_) (fun c49 => ?_)
        · refine x_iload_n C dX1_isRowAsIn_91 rfl ?_
          refine x_if_ge (tgt := 104) C dX1_isRowAsIn_92 (by decide) (fun c92 => ?_) (fun c92 => ?_)
          · refine x_iconst C dX1_isRowAsIn_104 ⟨by decide, by decide⟩ ?_
            refine x_zret C hQ dX1_isRowAsIn_105 (by first | exact Or.inl rfl | exact Or.inr rfl | omega) (Nat.le_refl _) (Nat.le_refl _) ?_
            refine ⟨rfl, rfl, _, rfl, hq _ ⟨by omega, ?_⟩⟩
            have hz : c < 44 ∨ mine < 0 := by
              rcases Int.lt_or_le c 44 with h9 | h9
              · exact Or.inl h9
              · have hR0 : R = [] := List.eq_nil_of_length_eq_zero (by omega)
                subst hR0
                simp [fIdx] at e1
                omega
            rcases Int.lt_or_le mine 0 with h5 | h5 <;> rcases Int.lt_or_le theirs 0 with h6 | h6
            · rw [rowL_neg (r := a) (l := R) (k := P.length) (by omega), rowL_neg (r := a) (l := R2) (k := P2.length) (by omega)]
              first | omega | simp
            · obtain ⟨X2, R4, y, hR2, hk2, hrl2⟩ := rowL_pos (r := a) (l := R2) (k := P2.length) (by omega)
              rw [rowL_neg (r := a) (l := R) (k := P.length) (by omega), hrl2]
              first | omega | simp
            · obtain ⟨X1, R3, x, hR, hk, hrl⟩ := rowL_pos (r := a) (l := R) (k := P.length) (by omega)
              rw [rowL_neg (r := a) (l := R2) (k := P2.length) (by omega), hrl]
              first | omega | simp
            · omega
          · refine x_iload C dX1_isRowAsIn_95 rfl ?_
            refine x_if_ge (tgt := 104) C dX1_isRowAsIn_97 (by decide) (fun c97 => ?_) (fun c97 => ?_)
            · refine x_iconst C dX1_isRowAsIn_104 ⟨by decide, by decide⟩ ?_
              refine x_zret C hQ dX1_isRowAsIn_105 (by first | exact Or.inl rfl | exact Or.inr rfl | omega) (Nat.le_refl _) (Nat.le_refl _) ?_
              refine ⟨rfl, rfl, _, rfl, hq _ ⟨by omega, ?_⟩⟩
              have hz : c < 44 ∨ mine < 0 := by
                rcases Int.lt_or_le c 44 with h9 | h9
                · exact Or.inl h9
                · have hR0 : R = [] := List.eq_nil_of_length_eq_zero (by omega)
                  subst hR0
                  simp [fIdx] at e1
                  omega
              rcases Int.lt_or_le mine 0 with h5 | h5 <;> rcases Int.lt_or_le theirs 0 with h6 | h6
              · rw [rowL_neg (r := a) (l := R) (k := P.length) (by omega), rowL_neg (r := a) (l := R2) (k := P2.length) (by omega)]
                first | omega | simp
              · obtain ⟨X2, R4, y, hR2, hk2, hrl2⟩ := rowL_pos (r := a) (l := R2) (k := P2.length) (by omega)
                rw [rowL_neg (r := a) (l := R) (k := P.length) (by omega), hrl2]
                first | omega | simp
              · obtain ⟨X1, R3, x, hR, hk, hrl⟩ := rowL_pos (r := a) (l := R) (k := P.length) (by omega)
                rw [rowL_neg (r := a) (l := R2) (k := P2.length) (by omega), hrl]
                first | omega | simp
              · omega
            · refine x_iconst C dX1_isRowAsIn_100 ⟨by decide, by decide⟩ ?_
              refine x_goto (tgt := 105) C dX1_isRowAsIn_101 (by decide) ?_
              refine x_zret C hQ dX1_isRowAsIn_105 (by first | exact Or.inl rfl | exact Or.inr rfl | omega) (Nat.le_refl _) (Nat.le_refl _) ?_
              refine ⟨rfl, rfl, _, rfl, hq _ ⟨by omega, ?_⟩⟩
              have hz : c < 44 ∨ mine < 0 := by
                rcases Int.lt_or_le c 44 with h9 | h9
                · exact Or.inl h9
                · have hR0 : R = [] := List.eq_nil_of_length_eq_zero (by omega)
                  subst hR0
                  simp [fIdx] at e1
                  omega
              rcases Int.lt_or_le mine 0 with h5 | h5 <;> rcases Int.lt_or_le theirs 0 with h6 | h6
              · rw [rowL_neg (r := a) (l := R) (k := P.length) (by omega), rowL_neg (r := a) (l := R2) (k := P2.length) (by omega)]
                first | omega | simp
              · obtain ⟨X2, R4, y, hR2, hk2, hrl2⟩ := rowL_pos (r := a) (l := R2) (k := P2.length) (by omega)
                rw [rowL_neg (r := a) (l := R) (k := P.length) (by omega), hrl2]
                first | omega | simp
              · obtain ⟨X1, R3, x, hR, hk, hrl⟩ := rowL_pos (r := a) (l := R) (k := P.length) (by omega)
                rw [rowL_neg (r := a) (l := R2) (k := P2.length) (by omega), hrl]
                first | omega | simp
              · omega
        · obtain ⟨X1, R3, x, hR, hk, hrl⟩ := rowL_pos (r := a) (l := R) (k := P.length) (by omega)
          obtain ⟨X2, R4, y, hR2, hk2, hrl2⟩ := rowL_pos (r := a) (l := R2) (k := P2.length) (by omega)
          have hl3 : R.length = X1.length + (R3.length + 1) := by rw [hR]; simp
          have hl4 : R2.length = X2.length + (R4.length + 1) := by rw [hR2]; simp
          refine x_aload_n C dX1_isRowAsIn_52 rfl ?_
          refine x_aload_n C dX1_isRowAsIn_53 rfl ?_
          refine x_iload_n C dX1_isRowAsIn_54 rfl ?_
          refine x_iload C dX1_isRowAsIn_55 rfl ?_
          refine y_p3 C dX1_isRowAsIn_57 kyX1_isItemAsIn knX1_isItemAsIn kmX1_125 hr.o (c_X1_isItemAsIn l hSa hSb mine theirs (P := P ++ X1) (P2 := P2 ++ X2) (x := x) (y := y) (R := R3) (R2 := R4) (by rw [hP, hR]; simp) (by simp; omega) (by rw [hP2, hR2]; simp) (by simp; omega)) (by decide) (Nat.zero_le _) (Nat.zero_le _) (Nat.le_of_ble_eq_true rfl) (fun z57 q57 => ?_)
          refine x_if_ne (tgt := 65) C dX1_isRowAsIn_60 (by decide) (fun c60 => ?_) (fun c60 => ?_)
          · refine x_aload_n C dX1_isRowAsIn_65 rfl ?_
            refine x_iload_n C dX1_isRowAsIn_66 rfl ?_
            refine x_iload_n C dX1_isRowAsIn_67 rfl ?_
            refine x_iconst C dX1_isRowAsIn_68 ⟨by decide, by decide⟩ ?_
            refine x_iadd C dX1_isRowAsIn_69 (by first | (unfold iR; omega) | exact ⟨by omega, by omega⟩) ?_
            refine y_p2 C dX1_isRowAsIn_70 kyX1_seek knX1_seek kmX1_122 hr.o (c_X1_seek l hSa a (mine + 1) (P := P ++ X1 ++ [x]) (R := R3) (by rw [hP, hR]; simp) (by simp; omega)) (by decide) (Nat.zero_le _) (Nat.zero_le _) (Nat.le_of_ble_eq_true rfl) (fun z70 q70 => ?_)
            rw [show mine + 1 = ((P ++ X1 ++ [x]).length : Int) by simp; omega] at q70
            refine s_ist6_3 C dX1_isRowAsIn_73 rfl ?_
            refine x_aload_n C dX1_isRowAsIn_74 rfl ?_
            refine x_iload_n C dX1_isRowAsIn_75 rfl ?_
            refine x_iload C dX1_isRowAsIn_76 rfl ?_
            refine x_iconst C dX1_isRowAsIn_78 ⟨by decide, by decide⟩ ?_
            refine x_iadd C dX1_isRowAsIn_79 (by first | (unfold iR; omega) | exact ⟨by omega, by omega⟩) ?_
            refine y_p2 C dX1_isRowAsIn_80 kyX1_seek knX1_seek kmX1_122 hv.o (c_X1_seek l hSb a (theirs + 1) (P := P2 ++ X2 ++ [y]) (R := R4) (by rw [hP2, hR2]; simp) (by simp; omega)) (by decide) (Nat.zero_le _) (Nat.zero_le _) (Nat.le_of_ble_eq_true rfl) (fun z80 q80 => ?_)
            rw [show theirs + 1 = ((P2 ++ X2 ++ [y]).length : Int) by simp; omega] at q80
            refine s_is6_4 C dX1_isRowAsIn_83 rfl ?_
            refine s_inc6_5 C dX1_isRowAsIn_85 rfl (by first | (unfold iR; omega) | exact ⟨by omega, by omega⟩) ?_
            refine x_goto (tgt := 36) C dX1_isRowAsIn_88 (by decide) ?_
            refine ih (P ++ X1 ++ [x]) R3 (P2 ++ X2 ++ [y]) R4 (c + 1) z70 z80 (by omega) (by rw [hP, hR]; simp) (by rw [hP2, hR2]; simp) q70 q80 (by omega) (fun z hz => hq z ⟨hz.1, ?_⟩)
            rw [hrl, hrl2, hz.2]
            simp only [List.cons.injEq, Prod.mk.injEq]
            have hxy := q57.2.mp (by omega)
            exact ⟨fun h9 => ⟨hxy, h9⟩, fun h9 => h9.2⟩
          · refine x_iconst C dX1_isRowAsIn_63 ⟨by decide, by decide⟩ ?_
            refine x_zret C hQ dX1_isRowAsIn_64 (by first | exact Or.inl rfl | exact Or.inr rfl | omega) (Nat.le_refl _) (Nat.le_refl _) ?_
            refine ⟨rfl, rfl, _, rfl, hq 0 ⟨Or.inl rfl, ?_⟩⟩
            rw [hrl, hrl2]
            simp only [List.cons.injEq, Prod.mk.injEq]
            omega

set_option maxHeartbeats 4000000 in
set_option maxRecDepth 100000 in
theorem c_X1_isRowAsIn (l : Launch) {w : mW} {h : Nat} {pl : List mP} {rows : List (Int × Int)} (hS : isSc w h pl rows) {v : Nat} {pl2 : List mP} {rows2 : List (Int × Int)} (hS2 : isSc w v pl2 rows2) (a : Int) : Cp l yX1_isRowAsIn cX1_isRowAsIn 6 (some .boolean) 1 [vr h, vr v, vi a] w (fun z => (z = 0 ∨ z = 1) ∧ (z = 1 ↔ (0 ≤ a ∧ a < rows.length) ∧ (0 ≤ a ∧ a < rows2.length) ∧ rowL a pl = rowL a pl2)) := by
  refine Cp.of (ml := [some (vr h), some (vr v), some (vi a), none, none, none]) kyX1_isRowAsIn rfl (Nat.le_of_ble_eq_true rfl) rfl ?_
  intro t n C hQ
  have hSa := hS
  have hSb := hS2
  have hlen := hS.len
  obtain ⟨J1, J2, J3, J4, J5, J6, J7, hr⟩ := hS
  obtain ⟨K1, K2, K3, K4, K5, K6, K7, hv⟩ := hS2
  refine x_aload_n C dX1_isRowAsIn_0 rfl ?_
  refine x_iload_n C dX1_isRowAsIn_1 rfl ?_
  refine y_p1 C dX1_isRowAsIn_2 kyX1_hasRow knX1_hasRow kmX1_119 hr.o (c_X1_hasRow l hr a) (by decide) (Nat.zero_le _) (Nat.zero_le _) (Nat.le_of_ble_eq_true rfl) (fun z2 q2 => ?_)
  refine x_if_eq (tgt := 16) C dX1_isRowAsIn_5 (by decide) (fun c5 => ?_) (fun c5 => ?_)
  · refine x_iconst C dX1_isRowAsIn_16 ⟨by decide, by decide⟩ ?_
    refine x_zret C hQ dX1_isRowAsIn_17 (by first | exact Or.inl rfl | exact Or.inr rfl | omega) (Nat.le_refl _) (Nat.le_refl _) ?_
    exact ⟨rfl, rfl, _, rfl, Or.inl rfl, by omega⟩
  · refine x_aload_n C dX1_isRowAsIn_8 rfl ?_
    refine x_iload_n C dX1_isRowAsIn_9 rfl ?_
    refine y_p1 C dX1_isRowAsIn_10 kyX1_hasRow knX1_hasRow kmX1_119 hv.o (c_X1_hasRow l hv a) (by decide) (Nat.zero_le _) (Nat.zero_le _) (Nat.le_of_ble_eq_true rfl) (fun z10 q10 => ?_)
    refine x_if_ne (tgt := 18) C dX1_isRowAsIn_13 (by decide) (fun c13 => ?_) (fun c13 => ?_)
    · refine x_aload_n C dX1_isRowAsIn_18 rfl ?_
      refine x_iload_n C dX1_isRowAsIn_19 rfl ?_
      refine x_iconst C dX1_isRowAsIn_20 ⟨by decide, by decide⟩ ?_
      refine y_p2 C dX1_isRowAsIn_21 kyX1_seek knX1_seek kmX1_122 hr.o (c_X1_seek l hSa a 0 (P := []) (R := pl) rfl rfl) (by decide) (Nat.zero_le _) (Nat.zero_le _) (Nat.le_of_ble_eq_true rfl) (fun z21 q21 => ?_)
      refine s_ist6_3 C dX1_isRowAsIn_24 rfl ?_
      refine x_aload_n C dX1_isRowAsIn_25 rfl ?_
      refine x_iload_n C dX1_isRowAsIn_26 rfl ?_
      refine x_iconst C dX1_isRowAsIn_27 ⟨by decide, by decide⟩ ?_
      refine y_p2 C dX1_isRowAsIn_28 kyX1_seek knX1_seek kmX1_122 hv.o (c_X1_seek l hSb a 0 (P := []) (R := pl2) rfl rfl) (by decide) (Nat.zero_le _) (Nat.zero_le _) (Nat.le_of_ble_eq_true rfl) (fun z28 q28 => ?_)
      refine s_is6_4 C dX1_isRowAsIn_31 rfl ?_
      refine x_iconst C dX1_isRowAsIn_33 ⟨by decide, by decide⟩ ?_
      refine s_is6_5 C dX1_isRowAsIn_34 rfl ?_
      refine lp_X1_isRowAsIn hSa hSb a C hQ (pl.length + 1) [] pl [] pl2 0 z21 z28 (by omega) rfl rfl q21 q28 (by omega) (fun z hz => ⟨hz.1, ?_⟩)
      rw [hz.2]
      constructor
      · intro h9; exact ⟨by omega, by omega, h9⟩
      · intro h9; exact h9.2.2
    · refine x_iconst C dX1_isRowAsIn_16 ⟨by decide, by decide⟩ ?_
      refine x_zret C hQ dX1_isRowAsIn_17 (by first | exact Or.inl rfl | exact Or.inr rfl | omega) (Nat.le_refl _) (Nat.le_refl _) ?_
      exact ⟨rfl, rfl, _, rfl, Or.inl rfl, by omega⟩
