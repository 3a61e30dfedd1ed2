/-! ===== branches, fields, arrays, ends, calls ===== -/
section JB
variable {t : TX} {l : Launch} {cc : ByteArray} {own : String} {nL : Nat} {ret : Option FieldType} {fr mc ms kc ks pc n : Nat} {ml : List (Option mV)} {st : List mV} {w : mW}
theorem x_icmp_eq (C : Cb t l cc own nL ret fr mc ms) {a b off : Int} {tgt : Nat} (hd : decode cc pc = .ok (.if_icmp .eq off, 3)) (ht : (pc : Int) + off = (tgt : Int)) (kt : a = b → J t kc ks tgt ml st n w) (kf : a ≠ b → J t kc ks (pc + 3) ml st n w) : J t kc ks pc ml (vi b :: vi a :: st) n w := by
  obtain ⟨p, l1, e, R, s, m, args, below, meth, c, Q, D, tI, tZ, tQ, A⟩ := t
  obtain ⟨-, hx, hb, -⟩ := C
  intro H locs ls hR hS hl ho hs
  obtain ⟨ob, hs1⟩ := stOk_c.mp hs
  obtain ⟨oa, hs2⟩ := stOk_c.mp hs1
  exact lv_icmp_eq hx hb hd ht (fun h => kt ((iR_eq oa ob).mp h) H locs ls hR hS hl ho hs2) (fun h => kf (fun q => h ((iR_eq oa ob).mpr q)) H locs ls hR hS hl ho hs2)
theorem x_if_eq (C : Cb t l cc own nL ret fr mc ms) {a off : Int} {tgt : Nat} (hd : decode cc pc = .ok (.ifCond .eq off, 3)) (ht : (pc : Int) + off = (tgt : Int)) (kt : a = 0 → J t kc ks tgt ml st n w) (kf : a ≠ 0 → J t kc ks (pc + 3) ml st n w) : J t kc ks pc ml (vi a :: st) n w := by
  obtain ⟨p, l1, e, R, s, m, args, below, meth, c, Q, D, tI, tZ, tQ, A⟩ := t
  obtain ⟨-, hx, hb, -⟩ := C
  intro H locs ls hR hS hl ho hs
  obtain ⟨oa, hs2⟩ := stOk_c.mp hs
  have ob : iR 0 := iR_0
  exact lv_if_eq hx hb hd ht (fun h => kt ((iR_eq oa ob).mp h) H locs ls hR hS hl ho hs2) (fun h => kf (fun q => h ((iR_eq oa ob).mpr q)) H locs ls hR hS hl ho hs2)
theorem x_icmp_ne (C : Cb t l cc own nL ret fr mc ms) {a b off : Int} {tgt : Nat} (hd : decode cc pc = .ok (.if_icmp .ne off, 3)) (ht : (pc : Int) + off = (tgt : Int)) (kt : a ≠ b → J t kc ks tgt ml st n w) (kf : a = b → J t kc ks (pc + 3) ml st n w) : J t kc ks pc ml (vi b :: vi a :: st) n w := by
  obtain ⟨p, l1, e, R, s, m, args, below, meth, c, Q, D, tI, tZ, tQ, A⟩ := t
  obtain ⟨-, hx, hb, -⟩ := C
  intro H locs ls hR hS hl ho hs
  obtain ⟨ob, hs1⟩ := stOk_c.mp hs
  obtain ⟨oa, hs2⟩ := stOk_c.mp hs1
  exact lv_icmp_ne hx hb hd ht (fun h => kt (fun q => h ((iR_eq oa ob).mpr q)) H locs ls hR hS hl ho hs2) (fun h => kf ((iR_eq oa ob).mp h) H locs ls hR hS hl ho hs2)
theorem x_if_ne (C : Cb t l cc own nL ret fr mc ms) {a off : Int} {tgt : Nat} (hd : decode cc pc = .ok (.ifCond .ne off, 3)) (ht : (pc : Int) + off = (tgt : Int)) (kt : a ≠ 0 → J t kc ks tgt ml st n w) (kf : a = 0 → J t kc ks (pc + 3) ml st n w) : J t kc ks pc ml (vi a :: st) n w := by
  obtain ⟨p, l1, e, R, s, m, args, below, meth, c, Q, D, tI, tZ, tQ, A⟩ := t
  obtain ⟨-, hx, hb, -⟩ := C
  intro H locs ls hR hS hl ho hs
  obtain ⟨oa, hs2⟩ := stOk_c.mp hs
  have ob : iR 0 := iR_0
  exact lv_if_ne hx hb hd ht (fun h => kt (fun q => h ((iR_eq oa ob).mpr q)) H locs ls hR hS hl ho hs2) (fun h => kf ((iR_eq oa ob).mp h) H locs ls hR hS hl ho hs2)
theorem x_icmp_lt (C : Cb t l cc own nL ret fr mc ms) {a b off : Int} {tgt : Nat} (hd : decode cc pc = .ok (.if_icmp .lt off, 3)) (ht : (pc : Int) + off = (tgt : Int)) (kt : a < b → J t kc ks tgt ml st n w) (kf : b ≤ a → J t kc ks (pc + 3) ml st n w) : J t kc ks pc ml (vi b :: vi a :: st) n w := by
  obtain ⟨p, l1, e, R, s, m, args, below, meth, c, Q, D, tI, tZ, tQ, A⟩ := t
  obtain ⟨-, hx, hb, -⟩ := C
  intro H locs ls hR hS hl ho hs
  obtain ⟨ob, hs1⟩ := stOk_c.mp hs
  obtain ⟨oa, hs2⟩ := stOk_c.mp hs1
  exact lv_icmp_lt hx hb hd ht (fun h => kt ((iR_lt oa ob).mp h) H locs ls hR hS hl ho hs2) (fun h => kf (Int.not_lt.mp (fun q => h ((iR_lt oa ob).mpr q))) H locs ls hR hS hl ho hs2)
theorem x_if_lt (C : Cb t l cc own nL ret fr mc ms) {a off : Int} {tgt : Nat} (hd : decode cc pc = .ok (.ifCond .lt off, 3)) (ht : (pc : Int) + off = (tgt : Int)) (kt : a < 0 → J t kc ks tgt ml st n w) (kf : 0 ≤ a → J t kc ks (pc + 3) ml st n w) : J t kc ks pc ml (vi a :: st) n w := by
  obtain ⟨p, l1, e, R, s, m, args, below, meth, c, Q, D, tI, tZ, tQ, A⟩ := t
  obtain ⟨-, hx, hb, -⟩ := C
  intro H locs ls hR hS hl ho hs
  obtain ⟨oa, hs2⟩ := stOk_c.mp hs
  have ob : iR 0 := iR_0
  exact lv_if_lt hx hb hd ht (fun h => kt ((iR_lt oa ob).mp h) H locs ls hR hS hl ho hs2) (fun h => kf (Int.not_lt.mp (fun q => h ((iR_lt oa ob).mpr q))) H locs ls hR hS hl ho hs2)
theorem x_icmp_ge (C : Cb t l cc own nL ret fr mc ms) {a b off : Int} {tgt : Nat} (hd : decode cc pc = .ok (.if_icmp .ge off, 3)) (ht : (pc : Int) + off = (tgt : Int)) (kt : b ≤ a → J t kc ks tgt ml st n w) (kf : a < b → J t kc ks (pc + 3) ml st n w) : J t kc ks pc ml (vi b :: vi a :: st) n w := by
  obtain ⟨p, l1, e, R, s, m, args, below, meth, c, Q, D, tI, tZ, tQ, A⟩ := t
  obtain ⟨-, hx, hb, -⟩ := C
  intro H locs ls hR hS hl ho hs
  obtain ⟨ob, hs1⟩ := stOk_c.mp hs
  obtain ⟨oa, hs2⟩ := stOk_c.mp hs1
  exact lv_icmp_ge hx hb hd ht (fun h => kt ((iR_le ob oa).mp h) H locs ls hR hS hl ho hs2) (fun h => kf (Int.not_le.mp (fun q => h ((iR_le ob oa).mpr q))) H locs ls hR hS hl ho hs2)
theorem x_if_ge (C : Cb t l cc own nL ret fr mc ms) {a off : Int} {tgt : Nat} (hd : decode cc pc = .ok (.ifCond .ge off, 3)) (ht : (pc : Int) + off = (tgt : Int)) (kt : 0 ≤ a → J t kc ks tgt ml st n w) (kf : a < 0 → J t kc ks (pc + 3) ml st n w) : J t kc ks pc ml (vi a :: st) n w := by
  obtain ⟨p, l1, e, R, s, m, args, below, meth, c, Q, D, tI, tZ, tQ, A⟩ := t
  obtain ⟨-, hx, hb, -⟩ := C
  intro H locs ls hR hS hl ho hs
  obtain ⟨oa, hs2⟩ := stOk_c.mp hs
  have ob : iR 0 := iR_0
  exact lv_if_ge hx hb hd ht (fun h => kt ((iR_le ob oa).mp h) H locs ls hR hS hl ho hs2) (fun h => kf (Int.not_le.mp (fun q => h ((iR_le ob oa).mpr q))) H locs ls hR hS hl ho hs2)
theorem x_icmp_gt (C : Cb t l cc own nL ret fr mc ms) {a b off : Int} {tgt : Nat} (hd : decode cc pc = .ok (.if_icmp .gt off, 3)) (ht : (pc : Int) + off = (tgt : Int)) (kt : b < a → J t kc ks tgt ml st n w) (kf : a ≤ b → J t kc ks (pc + 3) ml st n w) : J t kc ks pc ml (vi b :: vi a :: st) n w := by
  obtain ⟨p, l1, e, R, s, m, args, below, meth, c, Q, D, tI, tZ, tQ, A⟩ := t
  obtain ⟨-, hx, hb, -⟩ := C
  intro H locs ls hR hS hl ho hs
  obtain ⟨ob, hs1⟩ := stOk_c.mp hs
  obtain ⟨oa, hs2⟩ := stOk_c.mp hs1
  exact lv_icmp_gt hx hb hd ht (fun h => kt ((iR_lt ob oa).mp h) H locs ls hR hS hl ho hs2) (fun h => kf (Int.not_lt.mp (fun q => h ((iR_lt ob oa).mpr q))) H locs ls hR hS hl ho hs2)
theorem x_if_gt (C : Cb t l cc own nL ret fr mc ms) {a off : Int} {tgt : Nat} (hd : decode cc pc = .ok (.ifCond .gt off, 3)) (ht : (pc : Int) + off = (tgt : Int)) (kt : 0 < a → J t kc ks tgt ml st n w) (kf : a ≤ 0 → J t kc ks (pc + 3) ml st n w) : J t kc ks pc ml (vi a :: st) n w := by
  obtain ⟨p, l1, e, R, s, m, args, below, meth, c, Q, D, tI, tZ, tQ, A⟩ := t
  obtain ⟨-, hx, hb, -⟩ := C
  intro H locs ls hR hS hl ho hs
  obtain ⟨oa, hs2⟩ := stOk_c.mp hs
  have ob : iR 0 := iR_0
  exact lv_if_gt hx hb hd ht (fun h => kt ((iR_lt ob oa).mp h) H locs ls hR hS hl ho hs2) (fun h => kf (Int.not_lt.mp (fun q => h ((iR_lt ob oa).mpr q))) H locs ls hR hS hl ho hs2)
theorem x_icmp_le (C : Cb t l cc own nL ret fr mc ms) {a b off : Int} {tgt : Nat} (hd : decode cc pc = .ok (.if_icmp .le off, 3)) (ht : (pc : Int) + off = (tgt : Int)) (kt : a ≤ b → J t kc ks tgt ml st n w) (kf : b < a → J t kc ks (pc + 3) ml st n w) : J t kc ks pc ml (vi b :: vi a :: st) n w := by
  obtain ⟨p, l1, e, R, s, m, args, below, meth, c, Q, D, tI, tZ, tQ, A⟩ := t
  obtain ⟨-, hx, hb, -⟩ := C
  intro H locs ls hR hS hl ho hs
  obtain ⟨ob, hs1⟩ := stOk_c.mp hs
  obtain ⟨oa, hs2⟩ := stOk_c.mp hs1
  exact lv_icmp_le hx hb hd ht (fun h => kt ((iR_le oa ob).mp h) H locs ls hR hS hl ho hs2) (fun h => kf (Int.not_le.mp (fun q => h ((iR_le oa ob).mpr q))) H locs ls hR hS hl ho hs2)
theorem x_if_le (C : Cb t l cc own nL ret fr mc ms) {a off : Int} {tgt : Nat} (hd : decode cc pc = .ok (.ifCond .le off, 3)) (ht : (pc : Int) + off = (tgt : Int)) (kt : a ≤ 0 → J t kc ks tgt ml st n w) (kf : 0 < a → J t kc ks (pc + 3) ml st n w) : J t kc ks pc ml (vi a :: st) n w := by
  obtain ⟨p, l1, e, R, s, m, args, below, meth, c, Q, D, tI, tZ, tQ, A⟩ := t
  obtain ⟨-, hx, hb, -⟩ := C
  intro H locs ls hR hS hl ho hs
  obtain ⟨oa, hs2⟩ := stOk_c.mp hs
  have ob : iR 0 := iR_0
  exact lv_if_le hx hb hd ht (fun h => kt ((iR_le oa ob).mp h) H locs ls hR hS hl ho hs2) (fun h => kf (Int.not_le.mp (fun q => h ((iR_le oa ob).mpr q))) H locs ls hR hS hl ho hs2)
end JB
