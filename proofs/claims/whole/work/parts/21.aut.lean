theorem zext {x y : Int} (hx : -2147483648 ≤ x ∧ x ≤ 2147483647) (hy : -2147483648 ≤ y ∧ y ≤ 2147483647) (h : ∀ j, j < 32 → zbt x j = zbt y j) : x = y := by
  rw [← zinj hx hy]
  apply Int32.toBitVec.inj
  apply BitVec.eq_of_getLsbD_eq
  intro j hj
  exact h j hj
theorem dig_bit (c q k : Nat) : (dig c q).testBit k = (decide (k < 3) && c.testBit (3 * q + k)) := by
  have h : dig c q = c / 2 ^ (3 * q) % 2 ^ 3 := by
    unfold dig
    rw [Nat.pow_mul]
  rw [h, Nat.testBit_mod_two_pow, Nat.testBit_div_two_pow, Nat.add_comm k (3 * q)]
theorem bit_dig (c j : Nat) : c.testBit j = (dig c (j / 3)).testBit (j % 3) := by
  rw [dig_bit, show 3 * (j / 3) + j % 3 = j by omega]
  have : j % 3 < 3 := Nat.mod_lt _ (by decide)
  simp [this]
theorem bit_small {s k : Nat} (h : s < 8) (hk : 3 ≤ k) : s.testBit k = false := by
  apply Nat.testBit_lt_two_pow
  have : 2 ^ 3 ≤ 2 ^ k := Nat.pow_le_pow_right (by decide) hk
  omega
theorem zwithState {c i s : Nat} (hc : c < 4096) (hi : i < 4) (hs : s < 8) :
    zor (zand (c : Int) (zxor (zshl 7 ((i : Int) * 3)) (-1))) (zshl (s : Int) ((i : Int) * 3)) = ((cod (fun j => if j = i then s else dig c j) : Nat) : Int) := by
  have hf : ∀ j, j < 4 → (fun j => if j = i then s else dig c j) j < 8 := by
    intro j _
    by_cases h : j = i
    · simp [h, hs]
    · simp [h, dig_lt]
  have hlt := cod_lt hf
  have h3 : ((i : Int) * 3) = ((i * 3 : Nat) : Int) := by omega
  have h7 : (7 : Int) = ((7 : Nat) : Int) := rfl
  apply zext (zor_r _ _) (by omega)
  intro j hj
  rw [zbt_or, zbt_and, zbt_not _ hj, h3, zbt_shl _ (show i * 3 < 32 by omega) hj, zbt_shl _ (show i * 3 < 32 by omega) hj, h7, zbt_nat, zbt_nat, zbt_nat, zbt_nat, bit_dig (cod _) j, bit_dig c j]
  have hq : j / 3 * 3 + j % 3 = j := by omega
  by_cases h4 : j / 3 < 4
  · rw [dig_cod hf h4]
    have hm : j % 3 < 3 := Nat.mod_lt _ (by decide)
    by_cases h1 : j / 3 = i
    · have e1 : i * 3 ≤ j := by omega
      have e2 : j - i * 3 = j % 3 := by omega
      have e3 : Nat.testBit 7 (j % 3) = true := by
        rcases (show j % 3 = 0 ∨ j % 3 = 1 ∨ j % 3 = 2 by omega) with h | h | h <;> rw [h] <;> rfl
      have e4 : j % 3 < 32 := by omega
      simp [hj, h1, e1, e2, e3, e4]
    · by_cases h2 : i * 3 ≤ j
      · have e5 : 3 ≤ j - i * 3 := by omega
        simp [hj, h1, h2, bit_small (show 7 < 8 by decide) e5, bit_small hs e5]
      · simp [hj, h1, h2]
  · have e6 : ∀ x : Nat, x < 4096 → dig x (j / 3) = 0 := by
      intro x hx
      unfold dig
      have : 8 ^ 4 ≤ 8 ^ (j / 3) := Nat.pow_le_pow_right (by decide) (by omega)
      rw [Nat.div_eq_of_lt (by omega)]
    have e5 : 3 ≤ j - i * 3 := by omega
    rw [e6 _ hlt, e6 _ hc]
    simp [hj, bit_small (show 7 < 8 by decide) e5, bit_small hs e5]
/-! the automata as a mathematical value -/
abbrev aT : Type := Nat × (Nat → Nat) × (Nat → Bool) × (Nat → Int) × (Nat → Nat → Bool) × (Nat → Nat → Bool) × (Nat → Nat → Nat → Int) × (Nat → Bool) × (Nat → Bool)
def aN (a : aT) : Nat := a.1
def aS (a : aT) : Nat → Nat := a.2.1
def aP (a : aT) : Nat → Bool := a.2.2.1
def aI (a : aT) : Nat → Int := a.2.2.2.1
def aM (a : aT) : Nat → Nat → Bool := a.2.2.2.2.1
def aF (a : aT) : Nat → Nat → Bool := a.2.2.2.2.2.1
def aE (a : aT) : Nat → Nat → Nat → Int := a.2.2.2.2.2.2.1
def aD (a : aT) : Nat → Bool := a.2.2.2.2.2.2.2.1
def aC (a : aT) : Nat → Bool := a.2.2.2.2.2.2.2.2
/-- the automaton i has an edge with e -/
def aH (a : aT) (i e : Nat) : Bool := (List.range 6).any (fun s => decide (0 ≤ aE a i s e))
def aOk (a : aT) : Prop := aN a ≤ 4 ∧ ∀ i, i < aN a → (1 ≤ aS a i ∧ aS a i ≤ 6) ∧ (-1 ≤ aI a i ∧ aI a i < aS a i) ∧ ∀ s e, s < 6 → e < 12 → (-1 ≤ aE a i s e ∧ aE a i s e < aS a i) ∧ (aS a i ≤ s → aE a i s e = -1) ∧ (0 ≤ aE a i s e → aD a e = true)
/-- a number of 32 bits whose bits below n are f's -/
def zmask (n : Nat) (x : Int) (f : Nat → Bool) : Prop := (-2147483648 ≤ x ∧ x ≤ 2147483647) ∧ ∀ j, j < n → zbt x j = f j
/-- the class's cells hold the automata a -/
def cAut (a : aT) (i : Nat) (μ : zM) : Prop := μ (3 + 3 * i) 0 = aS a i ∧ μ (3 + 3 * i) 1 = (if aP a i = true then 0 else 1) ∧ μ (3 + 3 * i) 2 = aI a i ∧ zmask 6 (μ (3 + 3 * i) 3) (aM a i) ∧ zmask 6 (μ (3 + 3 * i) 4) (aF a i) ∧ zmask 12 (μ (3 + 3 * i) 5) (aH a i) ∧
  ∀ s, s < 6 → zmask 12 (μ (4 + 3 * i) s) (fun e => decide (0 ≤ aE a i s e)) ∧ ∀ e, e < 12 → 0 ≤ aE a i s e → μ (5 + 3 * i) (12 * s + e) = aE a i s e
def cRep (a : aT) (μ : zM) : Prop := μ 1 1 = aN a ∧ zmask 12 (μ 1 2) (aD a) ∧ zmask 12 (μ 1 3) (fun e => aD a e && aC a e) ∧ ∀ i, i < aN a → cAut a i μ
/-- places of the automata -/
theorem zRa {i : Nat} (h : i < 4) : zR 2 ((i : Int)).toNat = 3 + 3 * i := by
  have : ∀ i : Nat, i < 4 → zR 2 ((i : Int)).toNat = 3 + 3 * i := by decide
  exact this i h
theorem zMl {i : Nat} (h : i < 4) : 3 + 3 * i < zN := by unfold zN; omega
theorem zMl1 {i : Nat} (h : i < 4) : 4 + 3 * i < zN := by unfold zN; omega
theorem zMl2 {i : Nat} (h : i < 4) : 5 + 3 * i < zN := by unfold zN; omega
theorem zMk {i : Nat} (h : i < 4) : zK (3 + 3 * i) = .inr 1 := by
  have : ∀ i, i < 4 → zK (3 + 3 * i) = .inr 1 := by decide
  exact this i h
theorem zMk1 {i : Nat} (h : i < 4) : zK (4 + 3 * i) = .inl (0, 6) := by
  have : ∀ i, i < 4 → zK (4 + 3 * i) = .inl (0, 6) := by decide
  exact this i h
theorem zMk2 {i : Nat} (h : i < 4) : zK (5 + 3 * i) = .inl (0, 72) := by
  have : ∀ i, i < 4 → zK (5 + 3 * i) = .inl (0, 72) := by decide
  exact this i h
theorem zMr1 {i : Nat} (h : i < 4) : zR (3 + 3 * i) 6 = 4 + 3 * i := by
  have : ∀ i, i < 4 → zR (3 + 3 * i) 6 = 4 + 3 * i := by decide
  exact this i h
theorem zMr2 {i : Nat} (h : i < 4) : zR (3 + 3 * i) 7 = 5 + 3 * i := by
  have : ∀ i, i < 4 → zR (3 + 3 * i) 7 = 5 + 3 * i := by decide
  exact this i h
/-! small methods -/
set_option maxRecDepth 100000 in
theorem m_C_hasBit (l : Launch) (μ : zM) (x : Int) (i : Nat) (hx : -2147483648 ≤ x ∧ x ≤ 2147483647) (hi : i < 32) :
    zC l y_C_hasBit b_C_hasBit 2 (some .boolean) [] 0 0 0 true [zi x, zi (i : Int)] μ (zRi (fun r μ' => μ' = μ ∧ r = zB (zbt x i))) := by
  refine zC.of (own := n_C) (L := [some (zi x), some (zi (i : Int))]) (by decide) rfl (by simp [zcat]) (Nat.le_of_ble_eq_true rfl) rfl (fun Γ => ?_)
  refine zU_iload_n d_C_hasBit_0 rfl ?_
  refine zU_iload_n d_C_hasBit_1 rfl ?_
  refine zU_ishr d_C_hasBit_2 ?_
  refine zU_iconst d_C_hasBit_3 ?_
  refine zU_iand d_C_hasBit_4 ?_
  refine zU_iconst d_C_hasBit_5 ?_
  have h0 := zB_r (zbt x i)
  have h1 := zbt_eq x hx hi
  refine zU_icmp_ne 13 d_C_hasBit_6 (by decide) (by omega) (by omega) (fun h6 => ?_) (fun h6 => ?_)
  · refine zU_iconst d_C_hasBit_13 ?_
    exact zU_ireturn d_C_hasBit_14 (Or.inr ⟨rfl, by omega⟩) (by decide) (by decide) ⟨0, rfl, rfl, by omega⟩
  · refine zU_iconst d_C_hasBit_9 ?_
    refine zU_goto 14 d_C_hasBit_10 (by decide) ?_
    exact zU_ireturn d_C_hasBit_14 (Or.inr ⟨rfl, by omega⟩) (by decide) (by decide) ⟨1, rfl, rfl, by omega⟩
