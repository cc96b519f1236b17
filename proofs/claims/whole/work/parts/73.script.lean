/-! the law: its script, its switch -/
def sx (xs : Nat → Int32) (i : Int) : Int := (xs i.toNat).toInt
theorem sx_r (xs : Nat → Int32) (i : Int) : -2147483648 ≤ sx xs i ∧ sx xs i ≤ 2147483647 := zR_32 _
def zScr (Γ : zG) (N : Nat) (xs : Nat → Int32) : Prop := match Γ with
  | (_, _, _, s, _, _, _, _, _, _, _, ad) => va_X (ad 77) N xs s s.heap ∧ ad 77 < s.heap.size ∧ ¬ zA ad s.heap.size (ad 77)
section ZS
variable {Γ : zG} {cc : ByteArray} {own : String} {nL : Nat} {rt : Option FieldType} {hh : List (Nat × Nat × Nat × Nat)} {R : Room} {k0 s0 : Nat} {Fn : State → Prop} {b : Bool} {n : Nat} {μ : zM} {pc : Nat} {L : List (Option zV)} {st : List zV} {N : Nat} {xs : Nat → Int32}
theorem zU_sld {i : Int} (hs : zScr Γ N xs) (hN : N ≤ 2147483647) (d : decode cc pc = .ok (.iaload, 1)) (hi : 0 ≤ i ∧ i < N) (kk : zU Γ cc own nL rt hh R k0 s0 Fn b n μ (pc + 1) L (zi (sx xs i) :: st)) : zU Γ cc own nL rt hh R k0 s0 Fn b n μ pc L (zi i :: zp 77 :: st) := by
  obtain ⟨p, l, e, s, m, args, below, meth, c, D, cA, ad⟩ := Γ
  intro X H locs ls hP hS hb hl
  obtain ⟨h1, h2⟩ := zin hi hN
  obtain ⟨g1, g2, g3⟩ := hs
  refine va_sld (p := p) (H0 := s.heap) (A := zA ad s.heap.size) X.1 X.2.1 g1 g2 g3 hS h1 d ?_
  rw [h2]
  have h3 : Int32.ofInt (sx xs i) = xs i.toNat := Int32.ofInt_toInt _
  have := kk X H locs ls hP hS hb hl
  simp only [List.map_cons, zcv, h3] at this
  exact this
theorem zU_slen (hs : zScr Γ N xs) (d : decode cc pc = .ok (.arraylength, 1)) (kk : zU Γ cc own nL rt hh R k0 s0 Fn b n μ (pc + 1) L (zi (N : Int) :: st)) : zU Γ cc own nL rt hh R k0 s0 Fn b n μ pc L (zp 77 :: st) := by
  obtain ⟨p, l, e, s, m, args, below, meth, c, D, cA, ad⟩ := Γ
  intro X H locs ls hP hS hb hl
  obtain ⟨g1, g2, g3⟩ := hs
  exact va_slen (p := p) (H0 := s.heap) (A := zA ad s.heap.size) X.1 X.2.1 g1 g2 g3 hS d (kk X H locs ls hP hS hb hl)
theorem zU_tabOut {x : Int} {dflt lo hi : Int} {offs : Array Int} {len : Nat} (tgt : Nat) (d : decode cc pc = .ok (.tableswitch dflt lo hi offs, len)) (hx : -2147483648 ≤ x ∧ x ≤ 2147483647) (h : x < lo ∨ hi < x) (ht : (pc : Int) + dflt = (tgt : Int)) (kk : zU Γ cc own nL rt hh R k0 s0 Fn b n μ tgt L st) : zU Γ cc own nL rt hh R k0 s0 Fn b n μ pc L (zi x :: st) := by
  obtain ⟨p, l, e, s, m, args, below, meth, c, D, cA, ad⟩ := Γ
  intro X H locs ls hP hS hb hl
  exact lv_tableOut (x := Int32.ofInt x) X.1 X.2.1 d (by rw [zto hx]; exact h) ht (kk X H locs ls hP hS hb hl)
theorem zU_tabIn {x : Int} {dflt lo hi off : Int} {offs : Array Int} {len : Nat} (tgt : Nat) (d : decode cc pc = .ok (.tableswitch dflt lo hi offs, len)) (hx : -2147483648 ≤ x ∧ x ≤ 2147483647) (h1 : ¬ x < lo) (h2 : ¬ hi < x) (ho : offs[(x - lo).toNat]? = some off) (ht : (pc : Int) + off = (tgt : Int)) (kk : zU Γ cc own nL rt hh R k0 s0 Fn b n μ tgt L st) : zU Γ cc own nL rt hh R k0 s0 Fn b n μ pc L (zi x :: st) := by
  obtain ⟨p, l, e, s, m, args, below, meth, c, D, cA, ad⟩ := Γ
  intro X H locs ls hP hS hb hl
  exact lv_tableIn (x := Int32.ofInt x) X.1 X.2.1 d (by rw [zto hx]; exact h1) (by rw [zto hx]; exact h2) (by rw [zto hx]; exact ho) ht (kk X H locs ls hP hS hb hl)
end ZS
theorem zand31 (x : Int) : 0 ≤ zand x 31 ∧ zand x 31 < 32 := by
  have h1 : ((Int32.ofInt x &&& Int32.ofInt 31).toBitVec).toNat ≤ 31 := by
    rw [Int32.toBitVec_and, BitVec.toNat_and]
    exact Nat.and_le_right
  have h2 : (Int32.ofInt x &&& Int32.ofInt 31).toInt = (((Int32.ofInt x &&& Int32.ofInt 31).toBitVec).toNat : Int) := by
    rw [Int32.toInt, BitVec.toInt_eq_toNat_of_lt (by omega)]
  unfold zand
  rw [h2]
  omega
theorem rMake_r {a : aT} {v : vT} {r : Int} (h : rMake a v r) : -2 ≤ r ∧ r ≤ 200 := by
  rcases h with ⟨h1, _⟩ | ⟨h1, _⟩ | ⟨N, K, M, _, _, h4, h5⟩
  · omega
  · omega
  · have h6 := h4.2.1.2
    have h7 := h4.2.2.2.2.2.1
    omega
theorem lc_r (x y : Int) : -2147483648 ≤ (if y < x then 1 else if x < y then -1 else 0 : Int) ∧ (if y < x then 1 else if x < y then -1 else 0 : Int) ≤ 2147483647 := by
  split
  · omega
  · split <;> omega
theorem lc_0 {x y : Int} (h : x = y) : (if y < x then 1 else if x < y then -1 else 0 : Int) = 0 := by
  rw [if_neg (by omega), if_neg (by omega)]
