/-! bits of a number of 32 bits -/
def zbt (x : Int) (i : Nat) : Bool := (Int32.ofInt x).toBitVec.getLsbD i
def zB (b : Bool) : Int := if b = true then 1 else 0
theorem zB_or (b : Bool) : zB b = 0 ∨ zB b = 1 := by cases b <;> simp [zB]
theorem zB_r (b : Bool) : 0 ≤ zB b ∧ zB b ≤ 1 := by cases b <;> simp [zB]
theorem zB_one {b : Bool} : zB b = 1 ↔ b = true := by cases b <;> simp [zB]
theorem zB_zero {b : Bool} : zB b = 0 ↔ b = false := by cases b <;> simp [zB]
theorem zR_32 (x : Int32) : -2147483648 ≤ x.toInt ∧ x.toInt ≤ 2147483647 := by
  have h1 := x.le_toInt
  have h2 := x.toInt_lt
  omega
theorem zand_r (x y : Int) : -2147483648 ≤ zand x y ∧ zand x y ≤ 2147483647 := zR_32 _
theorem zor_r (x y : Int) : -2147483648 ≤ zor x y ∧ zor x y ≤ 2147483647 := zR_32 _
theorem zxor_r (x y : Int) : -2147483648 ≤ zxor x y ∧ zxor x y ≤ 2147483647 := zR_32 _
theorem zshl_r (x y : Int) : -2147483648 ≤ zshl x y ∧ zshl x y ≤ 2147483647 := zR_32 _
theorem zshr_r (x y : Int) : -2147483648 ≤ zshr x y ∧ zshr x y ≤ 2147483647 := zR_32 _
theorem zbt_and (x y : Int) (i : Nat) : zbt (zand x y) i = (zbt x i && zbt y i) := by
  simp [zbt, zand, Int32.ofInt_toInt]
theorem zbt_or (x y : Int) (i : Nat) : zbt (zor x y) i = (zbt x i || zbt y i) := by
  simp [zbt, zor, Int32.ofInt_toInt]
theorem zbt_not (x : Int) {i : Nat} (hi : i < 32) : zbt (zxor x (-1)) i = !zbt x i := by
  have h : (Int32.ofInt (-1)).toBitVec = BitVec.allOnes 32 := by decide
  simp only [zbt, zxor, Int32.ofInt_toInt, Int32.toBitVec_xor, h, BitVec.getLsbD_xor, BitVec.getLsbD_allOnes]
  simp [hi]
theorem zbt_nat (n i : Nat) : zbt (n : Int) i = (decide (i < 32) && n.testBit i) := by
  have h : (Int32.ofInt (n : Int)).toBitVec = BitVec.ofNat 32 n := by
    show BitVec.ofInt 32 (n : Int) = _
    exact BitVec.ofInt_natCast 32 n
  rw [zbt, h, BitVec.getLsbD_ofNat]
theorem zbt_zero (i : Nat) : zbt 0 i = false := by
  have := zbt_nat 0 i
  simpa using this
theorem zshm {i : Nat} (hi : i < 32) : (Int32.ofInt (i : Int) &&& 31) = Int32.ofInt (i : Int) := by
  have : ∀ i : Nat, i < 32 → (Int32.ofInt (i : Int) &&& 31) = Int32.ofInt (i : Int) := by decide
  exact this i hi
theorem zshn {i : Nat} (hi : i < 32) : (Int32.ofInt (i : Int)).toBitVec.toNat % 32 = i := by
  have : ∀ i : Nat, i < 32 → (Int32.ofInt (i : Int)).toBitVec.toNat % 32 = i := by decide
  exact this i hi
theorem zbt_shl (x : Int) {i j : Nat} (hi : i < 32) (hj : j < 32) : zbt (zshl x (i : Int)) j = (decide (i ≤ j) && zbt x (j - i)) := by
  simp only [zbt, zshl, Int32.ofInt_toInt, zshm hi, Int32.toBitVec_shiftLeft]
  rw [BitVec.shiftLeft_eq', show ((Int32.ofInt (i : Int)).toBitVec.smod 32).toNat = i from (by
    have : ∀ i : Nat, i < 32 → ((Int32.ofInt (i : Int)).toBitVec.smod 32).toNat = i := by decide
    exact this i hi), BitVec.getLsbD_shiftLeft]
  by_cases h : i ≤ j
  · have h1 : ¬ j < i := by omega
    simp only [hj, h, h1, decide_true, decide_false, Bool.not_false, Bool.true_and]
  · have h1 : j < i := by omega
    simp only [hj, h, h1, decide_true, decide_false, Bool.not_true, Bool.and_false, Bool.false_and]
theorem zshr_eq (x : Int) (hx : -2147483648 ≤ x ∧ x ≤ 2147483647) {i : Nat} (hi : i < 32) : zshr x (i : Int) = x / 2 ^ i := by
  have h1 : (Int32.ofInt x).toInt = x := zto hx
  have h2 : ((Int32.ofInt (i : Int)).toBitVec.smod 32).toNat = i := by
    have : ∀ i : Nat, i < 32 → ((Int32.ofInt (i : Int)).toBitVec.smod 32).toNat = i := by decide
    exact this i hi
  have h3 : (Int32.ofInt x >>> Int32.ofInt (i : Int)).toInt = (Int32.ofInt x).toBitVec.toInt >>> i := by
    show (Int32.ofInt x >>> Int32.ofInt (i : Int)).toBitVec.toInt = _
    rw [Int32.toBitVec_shiftRight, BitVec.sshiftRight', BitVec.toInt_sshiftRight, h2]
  unfold zshr
  rw [zshm hi, h3, Int32.toInt_toBitVec, h1, Int.shiftRight_eq_div_pow]
  norm_cast
theorem zbt_eq (x : Int) (hx : -2147483648 ≤ x ∧ x ≤ 2147483647) {i : Nat} (hi : i < 32) : zand (zshr x (i : Int)) 1 = zB (zbt x i) := by
  have h2 : ((Int32.ofInt (i : Int)).toBitVec.smod 32).toNat = i := by
    have : ∀ i : Nat, i < 32 → ((Int32.ofInt (i : Int)).toBitVec.smod 32).toNat = i := by decide
    exact this i hi
  have key : (Int32.ofInt x >>> Int32.ofInt (i : Int)) &&& Int32.ofInt 1 = Int32.ofInt (zB (zbt x i)) := by
    apply Int32.toBitVec.inj
    rw [Int32.toBitVec_and, Int32.toBitVec_shiftRight, BitVec.sshiftRight', h2]
    apply BitVec.eq_of_getLsbD_eq
    intro j hj
    rw [BitVec.getLsbD_and, BitVec.getLsbD_sshiftRight]
    have e1 : (Int32.ofInt 1).toBitVec.getLsbD j = decide (j = 0) := by
      have h9 := zbt_nat 1 j
      have h8 : (Int32.ofInt 1).toBitVec.getLsbD j = (decide (j < 32) && Nat.testBit 1 j) := h9
      rw [h8]
      cases j with
      | zero => rfl
      | succ j => simp [Nat.testBit_succ]
    rw [e1]
    by_cases h0 : j = 0
    · subst h0
      cases hb : zbt x i
      · have : (Int32.ofInt (zB false)).toBitVec.getLsbD 0 = false := by decide
        rw [this]
        simp only [zbt] at hb
        rw [if_pos (show i + 0 < 32 by omega), Nat.add_zero, hb]
        rfl
      · have : (Int32.ofInt (zB true)).toBitVec.getLsbD 0 = true := by decide
        rw [this]
        simp only [zbt] at hb
        rw [if_pos (show i + 0 < 32 by omega), Nat.add_zero, hb]
        rfl
    · cases hb : zbt x i
      · have : (Int32.ofInt (zB false)).toBitVec = 0#32 := by decide
        rw [this]
        simp [h0]
      · have : (Int32.ofInt (zB true)).toBitVec = 1#32 := by decide
        rw [this]
        simp [h0]
  unfold zand
  rw [show Int32.ofInt (zshr x (i : Int)) = Int32.ofInt x >>> Int32.ofInt (i : Int) from by unfold zshr; rw [zshm hi, Int32.ofInt_toInt], key]
  exact zto (by have := zB_r (zbt x i); omega)
/-! digits of a code, three bits each -/
def dig (c i : Nat) : Nat := c / 8 ^ i % 8
def cod (f : Nat → Nat) : Nat := f 0 + 8 * f 1 + 64 * f 2 + 512 * f 3
theorem dig_lt (c i : Nat) : dig c i < 8 := Nat.mod_lt _ (by decide)
theorem cod_lt {f : Nat → Nat} (h : ∀ i, i < 4 → f i < 8) : cod f < 4096 := by
  have h0 := h 0 (by decide)
  have h1 := h 1 (by decide)
  have h2 := h 2 (by decide)
  have h3 := h 3 (by decide)
  unfold cod
  omega
theorem dig_cod {f : Nat → Nat} (h : ∀ i, i < 4 → f i < 8) {i : Nat} (hi : i < 4) : dig (cod f) i = f i := by
  have h0 := h 0 (by decide)
  have h1 := h 1 (by decide)
  have h2 := h 2 (by decide)
  have h3 := h 3 (by decide)
  unfold dig cod
  rcases (show i = 0 ∨ i = 1 ∨ i = 2 ∨ i = 3 by omega) with rfl | rfl | rfl | rfl
  · simp only [Nat.pow_zero, Nat.div_one]; omega
  · simp only [show 8 ^ 1 = 8 from rfl]; omega
  · simp only [show 8 ^ 2 = 64 from rfl]; omega
  · simp only [show 8 ^ 3 = 512 from rfl]; omega
theorem cod_dig {c : Nat} (h : c < 4096) : cod (dig c) = c := by
  simp only [cod, dig, Nat.pow_zero, Nat.div_one, show 8 ^ 1 = 8 from rfl, show 8 ^ 2 = 64 from rfl, show 8 ^ 3 = 512 from rfl]
  omega
theorem cod_congr {f g : Nat → Nat} (h : ∀ i, i < 4 → f i = g i) : cod f = cod g := by
  simp only [cod, h 0 (by decide), h 1 (by decide), h 2 (by decide), h 3 (by decide)]
theorem dig_ext {c d : Nat} (hc : c < 4096) (hd : d < 4096) (h : ∀ i, i < 4 → dig c i = dig d i) : c = d := by
  rw [← cod_dig hc, ← cod_dig hd]
  exact cod_congr h
theorem zand_nat {a b : Nat} (ha : a < 2147483648) (hb : b < 2147483648) : zand (a : Int) (b : Int) = ((a &&& b : Nat) : Int) := by
  have hl : a &&& b < 2147483648 := Nat.lt_of_le_of_lt Nat.and_le_left ha
  have : Int32.ofInt (a : Int) &&& Int32.ofInt (b : Int) = Int32.ofInt ((a &&& b : Nat) : Int) := by
    apply Int32.toBitVec.inj
    rw [Int32.toBitVec_and]
    show BitVec.ofInt 32 (a : Int) &&& BitVec.ofInt 32 (b : Int) = BitVec.ofInt 32 ((a &&& b : Nat) : Int)
    rw [BitVec.ofInt_natCast, BitVec.ofInt_natCast, BitVec.ofInt_natCast]
    apply BitVec.eq_of_getLsbD_eq
    intro j hj
    simp [hj, Nat.testBit_and]
  rw [zand, this]
  exact zto (by omega)
theorem zstateIn {c i : Nat} (hc : c < 4096) (hi : i < 4) : zand (zshr (c : Int) ((i : Int) * 3)) 7 = (dig c i : Int) := by
  have h1 : ((i : Int) * 3) = ((i * 3 : Nat) : Int) := by omega
  rw [h1, zshr_eq (c : Int) (by omega) (show i * 3 < 32 by omega)]
  have h2 : (c : Int) / 2 ^ (i * 3) = ((c / 8 ^ i : Nat) : Int) := by
    rcases (show i = 0 ∨ i = 1 ∨ i = 2 ∨ i = 3 by omega) with rfl | rfl | rfl | rfl <;> simp <;> omega
  have h3 : c / 8 ^ i ≤ c := Nat.div_le_self _ _
  rw [h2, show (7 : Int) = ((7 : Nat) : Int) from rfl, zand_nat (by omega) (by omega)]
  rw [show (7 : Nat) = 2 ^ 3 - 1 from rfl, Nat.and_two_pow_sub_one_eq_mod]
  rfl
