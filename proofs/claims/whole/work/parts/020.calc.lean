/-! ===== the small machine: whole numbers for ints, addresses for references, a world as a function ===== -/
abbrev mV : Type := Int ⊕ (Int ⊕ Option Nat)
abbrev vi (z : Int) : mV := Sum.inl z
abbrev vl (z : Int) : mV := Sum.inr (Sum.inl z)
abbrev vr (a : Nat) : mV := Sum.inr (Sum.inr (some a))
abbrev vn : mV := Sum.inr (Sum.inr none)
abbrev mC : Type := (Nat × List Int) ⊕ (List (Option Nat) ⊕ (Nat × List mV))
abbrev ca (xs : List Int) : mC := Sum.inl (0, xs)
abbrev cz (xs : List Int) : mC := Sum.inl (1, xs)
abbrev cq (rs : List (Option Nat)) : mC := Sum.inr (Sum.inl rs)
abbrev co (ci : Nat) (fs : List mV) : mC := Sum.inr (Sum.inr (ci, fs))
abbrev mW : Type := Nat → Option mC
def mu (w : mW) (a : Nat) (c : mC) : mW := fun b => if b = a then some c else w b
theorem mu_eq (w : mW) (a : Nat) (c : mC) : mu w a c a = some c := by simp [mu]
theorem mu_ne (w : mW) {a b : Nat} (c : mC) (h : b ≠ a) : mu w a c b = w b := by simp [mu, h]
theorem mu_mu (w : mW) (a : Nat) (c d : mC) : mu (mu w a c) a d = mu w a d := by
  funext b
  by_cases h : b = a <;> simp [mu, h]
theorem mu_comm (w : mW) {a b : Nat} (c d : mC) (h : a ≠ b) : mu (mu w a c) b d = mu (mu w b d) a c := by
  funext x
  by_cases h1 : x = a
  · subst h1; simp [mu, h]
  · by_cases h2 : x = b
    · subst h2; simp [mu, h1]
    · simp [mu, h1, h2]
theorem mu_self {w : mW} {a : Nat} {c : mC} (h : w a = some c) : mu w a c = w := by
  funext b
  by_cases hb : b = a
  · subst hb; simp [mu, h]
  · simp [mu, hb]
def iR (z : Int) : Prop := -2147483648 ≤ z ∧ z ≤ 2147483647
def lR (z : Int) : Prop := -9223372036854775808 ≤ z ∧ z ≤ 9223372036854775807
def vOk (v : mV) : Prop := match v with
  | .inl z => iR z
  | .inr (.inl z) => lR z
  | .inr (.inr _) => True
def cOk (c : mC) : Prop := match c with
  | .inl (k, xs) => (k = 0 → ∀ x ∈ xs, iR x) ∧ (k ≠ 0 → ∀ x ∈ xs, x = 0 ∨ x = 1)
  | .inr (.inl _) => True
  | .inr (.inr (_, fs)) => ∀ v ∈ fs, vOk v
def mT (v : mV) : Value := match v with
  | .inl z => .int (Int32.ofInt z)
  | .inr (.inl z) => .long (Int64.ofInt z)
  | .inr (.inr r) => va_rf r
def mE (tI tZ tQ : ClassId) (c : mC) : va_E := match c with
  | .inl (k, xs) => .inl ((if k = 0 then tI else tZ), xs.length, .inl (fun j => Int32.ofInt (xs.getD j 0)))
  | .inr (.inl rs) => .inl (tQ, rs.length, .inr (.inr (.inr (.inr (fun j => rs.getD j none)))))
  | .inr (.inr (ci, fs)) => .inr (ci, fs.map mT)
def mR (D : va_G) (tI tZ tQ : ClassId) (A : Nat → Prop) (n : Nat) (w : mW) (H : Heap) : Prop :=
  H.size = n ∧ ∀ (a : Nat) (c : mC), w a = some c → cOk c ∧ A a ∧ va_at D vwCl (a, mE tI tZ tQ c) H
theorem mR.set {D : va_G} {tI tZ tQ : ClassId} {A : Nat → Prop} {n : Nat} {w : mW} {H H1 : Heap} {a : Nat} {c1 : mC} (h : mR D tI tZ tQ A n w H) (hz : H1.size = H.size) (hq : ∀ q, q ≠ a → H1[q]? = H[q]?) (hA : A a) (hc : cOk c1) (he : va_at D vwCl (a, mE tI tZ tQ c1) H1) : mR D tI tZ tQ A n (mu w a c1) H1 := by
  refine ⟨hz.trans h.1, fun b c hb => ?_⟩
  by_cases hba : b = a
  · subst hba
    rw [mu_eq] at hb
    cases hb
    exact ⟨hc, hA, he⟩
  · rw [mu_ne _ _ hba] at hb
    obtain ⟨h1, h2, h3⟩ := h.2 b c hb
    exact ⟨h1, h2, h3.kept (hq b hba)⟩
theorem mR.push {D : va_G} {tI tZ tQ : ClassId} {A : Nat → Prop} {n : Nat} {w : mW} {H H1 : Heap} {c1 : mC} (h : mR D tI tZ tQ A n w H) (hz : H1.size = n + 1) (hq : ∀ q, q < n → H1[q]? = H[q]?) (hA : A n) (hc : cOk c1) (he : va_at D vwCl (n, mE tI tZ tQ c1) H1) : mR D tI tZ tQ A (n + 1) (mu w n c1) H1 := by
  refine ⟨hz, fun b c hb => ?_⟩
  by_cases hba : b = n
  · subst hba
    rw [mu_eq] at hb
    cases hb
    exact ⟨hc, hA, he⟩
  · rw [mu_ne _ _ hba] at hb
    obtain ⟨h1, h2, h3⟩ := h.2 b c hb
    have hl := h3.lt
    exact ⟨h1, h2, h3.kept (hq b (by rw [h.1] at hl; exact hl))⟩
/-! numbers -/
theorem iR_toInt {z : Int} (h : iR z) : (Int32.ofInt z).toInt = z := Int32.toInt_ofInt_of_le (by have := h.1; omega) (by have := h.2; omega)
theorem lR_toInt {z : Int} (h : lR z) : (Int64.ofInt z).toInt = z := Int64.toInt_ofInt_of_le (by have := h.1; omega) (by have := h.2; omega)
theorem iR_lt {a b : Int} (ha : iR a) (hb : iR b) : Int32.ofInt a < Int32.ofInt b ↔ a < b := by
  rw [Int32.lt_iff_toInt_lt, iR_toInt ha, iR_toInt hb]
theorem iR_le {a b : Int} (ha : iR a) (hb : iR b) : Int32.ofInt a ≤ Int32.ofInt b ↔ a ≤ b := by
  rw [Int32.le_iff_toInt_le, iR_toInt ha, iR_toInt hb]
theorem iR_eq {a b : Int} (ha : iR a) (hb : iR b) : Int32.ofInt a = Int32.ofInt b ↔ a = b := by
  rw [← Int32.toInt_inj, iR_toInt ha, iR_toInt hb]
theorem iR_0 : iR 0 := ⟨by decide, by decide⟩
theorem iR_z : Int32.ofInt 0 = 0 := rfl
theorem iR_clamp {z : Int} (h : iR z) : (Int32.ofInt z).toNatClampNeg = z.toNat := Int32.toNatClampNeg_ofInt_of_le (by have := h.1; omega) (by have := h.2; omega)
theorem iR_in {z : Int} {n : Nat} (h : iR z) (h0 : 0 ≤ z) (hn : z < n) : vp_in (Int32.ofInt z) n := by
  rw [vp_in_iff, iR_toInt h]
  exact ⟨h0, hn⟩
theorem iR_div {a b : Int} (ha : iR a) (hb : iR b) (h0 : 0 ≤ a) (h1 : 0 < b) : Int32.ofInt a / Int32.ofInt b = Int32.ofInt (a / b) ∧ iR (a / b) := by
  have hle : a / b ≤ a := Int.ediv_le_self b h0
  have hnn : 0 ≤ a / b := Int.ediv_nonneg h0 (Int.le_of_lt h1)
  have hR : iR (a / b) := ⟨by omega, by have := ha.2; omega⟩
  refine ⟨?_, hR⟩
  rw [← Int32.toInt_inj, iR_toInt hR, Int32.toInt_div_of_ne_right _ _ (fun h => ?_), iR_toInt ha, iR_toInt hb]
  · exact Int.tdiv_eq_ediv_of_nonneg h0
  · have h2 := congrArg Int32.toInt h
    rw [iR_toInt hb] at h2
    have h3 : (-1 : Int32).toInt = -1 := by decide
    omega
theorem iR_rem {a b : Int} (ha : iR a) (hb : iR b) (h0 : 0 ≤ a) (h1 : 0 < b) : Int32.ofInt a - Int32.ofInt a / Int32.ofInt b * Int32.ofInt b = Int32.ofInt (a % b) ∧ iR (a % b) := by
  obtain ⟨hd, hR⟩ := iR_div ha hb h0 h1
  have e : a % b = a - a / b * b := by
    have := Int.emod_def a b
    rw [this, Int.mul_comm]
  have hm0 := Int.emod_nonneg a (Int.ne_of_gt h1)
  have hm1 := Int.emod_lt_of_pos a h1
  refine ⟨?_, ⟨by omega, by have := hb.2; omega⟩⟩
  rw [hd, e, Int32.ofInt_sub, Int32.ofInt_mul]
/-! the words that every method has -/
def Gw : List Cond := lw_tbl.filter goodWord
theorem gw_mem {i : Nat} {w : Cond} (h : lw_tbl[i]? = some w) (hg : goodWord w = true) : w ∈ Gw := List.mem_filter.mpr ⟨List.mem_of_getElem? h, hg⟩
theorem gw_good : GoodIn Gw Gw := fun w h => ⟨h, good_of_word (List.mem_filter.mp h).2⟩
theorem gw_tbl : ∀ w ∈ Gw, w ∈ lw_tbl := fun _ h => (List.mem_filter.mp h).1
def mm_tys (tI tZ tQ : ClassId) : List (ClassId × FieldType) := [(tI, .int), (tZ, .boolean), (tQ, .object RX2)]
