/-! codes to the base 6 -/
def c6 (c : Nat) : Nat := dig c 0 + 6 * dig c 1 + 36 * dig c 2 + 216 * dig c 3
def rOk (a : aT) (mem : Nat → Bool) (c : Nat) : Prop := aVal a mem c ∧ ∀ i, i < 4 → ¬ (i < aN a ∧ mem i = true) → dig c i = 0
theorem rOk_dig {a : aT} {mem : Nat → Bool} {c : Nat} (ha : aOk a) (h : rOk a mem c) {i : Nat} (hi : i < 4) : dig c i < 6 := by
  by_cases hc : i < aN a ∧ mem i = true
  · have h1 := h.1.2 i hc.1 hc.2
    have h2 := (ha.2 i hc.1).1
    omega
  · rw [h.2 i hi hc]
    omega
theorem c6_lt {a : aT} {mem : Nat → Bool} {c : Nat} (ha : aOk a) (h : rOk a mem c) : c6 c < 1296 := by
  have h0 := rOk_dig ha h (i := 0) (by omega)
  have h1 := rOk_dig ha h (i := 1) (by omega)
  have h2 := rOk_dig ha h (i := 2) (by omega)
  have h3 := rOk_dig ha h (i := 3) (by omega)
  unfold c6
  omega
theorem c6_dig {a : aT} {mem : Nat → Bool} {c : Nat} (ha : aOk a) (h : rOk a mem c) {i : Nat} (hi : i < 4) : c6 c / 6 ^ i % 6 = dig c i := by
  have h0 := rOk_dig ha h (i := 0) (by omega)
  have h1 := rOk_dig ha h (i := 1) (by omega)
  have h2 := rOk_dig ha h (i := 2) (by omega)
  have h3 := rOk_dig ha h (i := 3) (by omega)
  unfold c6
  rcases (show i = 0 ∨ i = 1 ∨ i = 2 ∨ i = 3 by omega) with h | h | h | h <;> subst h
  · rw [show (6 : Nat) ^ 0 = 1 from rfl]; omega
  · rw [show (6 : Nat) ^ 1 = 6 from rfl]; omega
  · rw [show (6 : Nat) ^ 2 = 36 from rfl]; omega
  · rw [show (6 : Nat) ^ 3 = 216 from rfl]; omega
theorem c6_inj {a : aT} {mem : Nat → Bool} {c d : Nat} (ha : aOk a) (hc : rOk a mem c) (hd : rOk a mem d) (h : c6 c = c6 d) : c = d := by
  apply dig_ext hc.1.1 hd.1.1
  intro i hi
  rw [← c6_dig ha hc hi, ← c6_dig ha hd hi, h]
def s6 (f : Nat → Int) : Nat → Int
  | 0 => 0
  | n + 1 => s6 f n + 6 ^ n * f n
theorem s6_r {f : Nat → Int} {n : Nat} (hn : n ≤ 4) (hf : ∀ i, i < n → -1 ≤ f i ∧ f i ≤ 5) : -260 ≤ s6 f n ∧ s6 f n ≤ 1296 := by
  rcases (show n = 0 ∨ n = 1 ∨ n = 2 ∨ n = 3 ∨ n = 4 by omega) with h | h | h | h | h <;> subst h
  · simp [s6]
  · have := hf 0 (by omega)
    simp only [s6, show (6 : Int) ^ 0 = 1 from rfl]
    omega
  · have := hf 0 (by omega); have := hf 1 (by omega)
    simp only [s6, show (6 : Int) ^ 0 = 1 from rfl, show (6 : Int) ^ 1 = 6 from rfl]
    omega
  · have := hf 0 (by omega); have := hf 1 (by omega); have := hf 2 (by omega)
    simp only [s6, show (6 : Int) ^ 0 = 1 from rfl, show (6 : Int) ^ 1 = 6 from rfl, show (6 : Int) ^ 2 = 36 from rfl]
    omega
  · have := hf 0 (by omega); have := hf 1 (by omega); have := hf 2 (by omega); have := hf 3 (by omega)
    simp only [s6, show (6 : Int) ^ 0 = 1 from rfl, show (6 : Int) ^ 1 = 6 from rfl, show (6 : Int) ^ 2 = 36 from rfl, show (6 : Int) ^ 3 = 216 from rfl]
    omega
theorem s6_c6 {f : Nat → Int} {g : Nat → Nat} {n : Nat} (hn : n ≤ 4) (hf : ∀ i, i < n → f i = (g i : Int)) (h0 : ∀ i, n ≤ i → i < 4 → g i = 0) (h8 : ∀ i, i < 4 → g i < 8) : s6 f n = (c6 (cod g) : Int) := by
  have e0 := dig_cod h8 (i := 0) (by omega)
  have e1 := dig_cod h8 (i := 1) (by omega)
  have e2 := dig_cod h8 (i := 2) (by omega)
  have e3 := dig_cod h8 (i := 3) (by omega)
  unfold c6
  rw [e0, e1, e2, e3]
  rcases (show n = 0 ∨ n = 1 ∨ n = 2 ∨ n = 3 ∨ n = 4 by omega) with h | h | h | h | h <;> subst h
  · rw [h0 0 (by omega) (by omega), h0 1 (by omega) (by omega), h0 2 (by omega) (by omega), h0 3 (by omega) (by omega)]
    simp [s6]
  · rw [h0 1 (by omega) (by omega), h0 2 (by omega) (by omega), h0 3 (by omega) (by omega)]
    simp only [s6, show (6 : Int) ^ 0 = 1 from rfl, hf 0 (by omega)]
    omega
  · rw [h0 2 (by omega) (by omega), h0 3 (by omega) (by omega)]
    simp only [s6, show (6 : Int) ^ 0 = 1 from rfl, show (6 : Int) ^ 1 = 6 from rfl, hf 0 (by omega), hf 1 (by omega)]
    omega
  · rw [h0 3 (by omega) (by omega)]
    simp only [s6, show (6 : Int) ^ 0 = 1 from rfl, show (6 : Int) ^ 1 = 6 from rfl, show (6 : Int) ^ 2 = 36 from rfl, hf 0 (by omega), hf 1 (by omega), hf 2 (by omega)]
    omega
  · simp only [s6, show (6 : Int) ^ 0 = 1 from rfl, show (6 : Int) ^ 1 = 6 from rfl, show (6 : Int) ^ 2 = 36 from rfl, show (6 : Int) ^ 3 = 216 from rfl, hf 0 (by omega), hf 1 (by omega), hf 2 (by omega), hf 3 (by omega)]
    omega
def fSo (a : aT) (e i : Nat) : Bool := aP a i && aH a i e
def fPl (a : aT) (c e i : Nat) : Bool := !aP a i || (!aH a i e || decide (0 ≤ aE a i (dig c i) e))
def fRu (a : aT) (mem : Nat → Bool) (c e i : Nat) : Bool := aP a i || (!mem i || (!aH a i e || decide (0 ≤ aE a i (dig c i) e)))
def fS (a : aT) (mem : Nat → Bool) (c e i : Nat) : Int := if (mem i && aH a i e) = true then aE a i (dig c i) e else (dig c i : Int)
theorem aMay_f (a : aT) (c e : Nat) : aMay a c e = ((List.range (aN a)).any (fSo a e) && (List.range (aN a)).all (fPl a c e)) := rfl
theorem aFree_f {a : aT} {r : Option Nat} {c e : Nat} (h : (List.range (aN a)).all (fPl a c e) = true) : aFree a (aMem a r) c e = (List.range (aN a)).all (fRu a (aMem a r) c e) := by
  unfold aFree
  cases h1 : (List.range (aN a)).all (fRu a (aMem a r) c e)
  · cases h2 : (List.range (aN a)).all (fun i => !aMem a r i || (!aH a i e || decide (0 ≤ aE a i (dig c i) e)))
    · rfl
    · have h3 : (List.range (aN a)).all (fRu a (aMem a r) c e) = true := all_iff.mpr (fun i hi => by
        have := all_iff.mp h2 i hi
        unfold fRu
        rw [this, Bool.or_true])
      rw [h1] at h3
      cases h3
  · refine all_iff.mpr (fun i hi => ?_)
    have h2 := all_iff.mp h1 i hi
    have h3 := all_iff.mp h i hi
    unfold fRu at h2
    unfold fPl at h3
    cases hp : aP a i
    · rw [hp, Bool.false_or] at h2
      exact h2
    · rw [hp, Bool.not_true, Bool.false_or] at h3
      rw [h3, Bool.or_true]
def aAft (a : aT) (mem : Nat → Bool) (c e : Nat) : Int := if aMay a c e = true then (if aFree a mem c e = true then (c6 (cod (aStep a mem c e)) : Int) else -1) else -2
theorem fS_free {a : aT} {mem : Nat → Bool} {c e : Nat} (hf : aFree a mem c e = true) {i : Nat} (hi : i < aN a) : fS a mem c e i = (aStep a mem c e i : Int) := by
  have h := all_iff.mp hf i hi
  unfold fS aStep
  cases hm : mem i
  · simp
  · cases hh : aH a i e
    · simp
    · rw [hm, hh] at h
      simp at h
      simp [hi]
      omega
theorem aMem_f {a : aT} {r : Option Nat} {i : Nat} (hi : i < aN a) (h : aMem a r i = false) : aP a i = false := by
  cases r with
  | none => simp [aMem, hi] at h
  | some x => simp [aMem, hi] at h; exact h.1
set_option maxRecDepth 100000 in
set_option maxHeartbeats 4000000 in
theorem m_R_after (l : Launch) (μ : zM) {a : aT} (ha : aOk a) (hc : rRep a μ) {c e : Nat} {r : Option Nat} (hr : ∀ x, r = some x → x < 4) (hv : rOk a (aMem a r) c) (he : e < 12) :
    zC l y_R_after b_R_after 12 (some .int) [] 1 0 24 true [zp 51, zi (c6 c : Int), zi (e : Int), zi (rI r)] μ (zRi (fun r' μ' => μ' = μ ∧ r' = aAft a (aMem a r) c e)) := by
  refine zC.of (own := n_R) (L := [some (zp 51), some (zi (c6 c : Int)), some (zi (e : Int)), some (zi (rI r)), none, none, none, none, none, none, none, none]) (by decide) rfl (by simp [zcat]) (Nat.le_of_ble_eq_true rfl) rfl (fun Γ => ?_)
  obtain ⟨hN, hA, hE⟩ := id hc
  have hN4 := ha.1
  have hcl := c6_lt ha hv
  refine zU_iconst d_R_after_0 ?_
  refine zU_istore d_R_after_1 (by decide) ?_
  refine zU.eqL (L' := [some (zp 51), some (zi (c6 c : Int)), some (zi (e : Int)), some (zi (rI r)), some (zi 0), none, none, none, none, none, none, none]) rfl ?_
  refine zU_iconst d_R_after_3 ?_
  refine zU_istore d_R_after_4 (by decide) ?_
  refine zU.eqL (L' := [some (zp 51), some (zi (c6 c : Int)), some (zi (e : Int)), some (zi (rI r)), some (zi 0), some (zi 1), none, none, none, none, none, none]) rfl ?_
  refine zU_iconst d_R_after_6 ?_
  refine zU_istore d_R_after_7 (by decide) ?_
  refine zU.eqL (L' := [some (zp 51), some (zi (c6 c : Int)), some (zi (e : Int)), some (zi (rI r)), some (zi 0), some (zi 1), some (zi 1), none, none, none, none, none]) rfl ?_
  refine zU_iconst d_R_after_9 ?_
  refine zU_istore d_R_after_10 (by decide) ?_
  refine zU.eqL (L' := [some (zp 51), some (zi (c6 c : Int)), some (zi (e : Int)), some (zi (rI r)), some (zi 0), some (zi 1), some (zi 1), some (zi 0), none, none, none, none]) rfl ?_
  refine zU_iconst d_R_after_12 ?_
  refine zU_istore d_R_after_13 (by decide) ?_
  refine zU.eqL (L' := [some (zp 51), some (zi (c6 c : Int)), some (zi (e : Int)), some (zi (rI r)), some (zi 0), some (zi 1), some (zi 1), some (zi 0), some (zi 1), none, none, none]) rfl ?_
  refine zU_iconst d_R_after_15 ?_
  refine zU_istore d_R_after_16 (by decide) ?_
  refine zU.eqL (L' := [some (zp 51), some (zi (c6 c : Int)), some (zi (e : Int)), some (zi (rI r)), some (zi 0), some (zi 1), some (zi 1), some (zi 0), some (zi 1), some (zi 0), none, none]) rfl ?_
  have hJ18 : ∀ (d : Nat) (i : Nat), i + d = aN a → zU Γ b_R_after n_R 12 (some .int) [] (zRm 1 0 24) 0 0 (zFin Γ 0 true (zRi (fun r' μ' => μ' = μ ∧ r' = aAft a (aMem a r) c e))) true 0 μ 18 [some (zp 51), some (zi (c6 c : Int)), some (zi (e : Int)), some (zi (rI r)), some (zi (zB ((List.range i).any (fSo a e)))), some (zi (zB ((List.range i).all (fPl a c e)))), some (zi (zB ((List.range i).all (fRu a (aMem a r) c e)))), some (zi (s6 (fS a (aMem a r) c e) i)), some (zi ((6 : Int) ^ i)), some (zi (i : Int)), none, none] [] := by
    intro d
    induction d using Nat.strongRecOn with
    | _ d ih18 =>
      intro i hd
      refine zU_iload d_R_after_18 rfl ?_
      refine zU_aload_n d_R_after_20 rfl ?_
      refine zU_getI (v := (aN a : Int)) d_R_after_21 f_R_98 (by decide) rfl rfl (hN) ?_
      refine zU_icmp_ge 178 d_R_after_24 (by decide) (by omega) (by omega) (fun h24 => ?_) (fun h24 => ?_)
      · refine zU_iload d_R_after_178 rfl ?_
        refine zU_if_eq 188 d_R_after_180 (by decide) (zBr _) (fun h180 => ?_) (fun h180 => ?_)
        · have b180 := zB_zero.mp h180
          refine zU_bipush d_R_after_188 (by decide) ?_
          refine zU_goto 204 d_R_after_190 (by decide) ?_
          exact zU_ireturn d_R_after_204 (Or.inl rfl) (by decide) (by decide) (⟨_, rfl, rfl, by have hi : i = aN a := (by omega); subst hi; unfold aAft; rw [aMay_f, b180]; rfl⟩)
        · have b180 := zB_nz.mp h180
          refine zU_iload d_R_after_183 rfl ?_
          refine zU_if_ne 193 d_R_after_185 (by decide) (zBr _) (fun h185 => ?_) (fun h185 => ?_)
          · have b185 := zB_nz.mp h185
            refine zU_iload d_R_after_193 rfl ?_
            refine zU_if_eq 203 d_R_after_195 (by decide) (zBr _) (fun h195 => ?_) (fun h195 => ?_)
            · have b195 := zB_zero.mp h195
              refine zU_iconst d_R_after_203 ?_
              exact zU_ireturn d_R_after_204 (Or.inl rfl) (by decide) (by decide) (⟨_, rfl, rfl, by have hi : i = aN a := (by omega); subst hi; unfold aAft; rw [aMay_f, b180, b185, aFree_f b185, b195]; rfl⟩)
            · have b195 := zB_nz.mp h195
              refine zU_iload d_R_after_198 rfl ?_
              refine zU_goto 204 d_R_after_200 (by decide) ?_
              exact zU_ireturn d_R_after_204 (Or.inl rfl) (by decide) (by decide) (⟨_, rfl, rfl, by have hi : i = aN a := (by omega); subst hi; unfold aAft; have hf : aFree a (aMem a r) c e = true := (by rw [aFree_f b185, b195]); rw [hf, aMay_f, b180, b185]; exact s6_c6 (by omega) (fun i hi => fS_free hf hi) (fun i h1 h2 => by unfold aStep; rw [if_neg (fun h => by omega)]; exact hv.2 i h2 (fun h => by omega)) (fun i _ => aStep_lt ha _ hv.1 he i)⟩)
          · have b185 := zB_zero.mp h185
            refine zU_bipush d_R_after_188 (by decide) ?_
            refine zU_goto 204 d_R_after_190 (by decide) ?_
            exact zU_ireturn d_R_after_204 (Or.inl rfl) (by decide) (by decide) (⟨_, rfl, rfl, by have hi : i = aN a := (by omega); subst hi; unfold aAft; rw [aMay_f, b185, Bool.and_false]; rfl⟩)
      · refine zU_iload_n d_R_after_27 rfl ?_
        refine zU_iload d_R_after_28 rfl ?_
        refine zU_callSi [zi (c6 c : Int), zi (i : Int)] d_R_after_30 k_R_114 rfl (by decide) (Nat.le_of_ble_eq_true rfl) (fun l => m_R_digit l μ (c := c6 c) (i := i) (by omega) (by omega)) (fun r30 μ30 h30 => ?_)
        obtain ⟨hμ30, hr30⟩ := h30
        replace hμ30 := hμ30.symm
        subst hμ30
        rw [c6_dig ha hv (by omega)] at hr30
        subst hr30
        have hi : i < aN a := by omega
        have hdl : dig c i < 6 := rOk_dig ha hv (by omega)
        refine zU_istore d_R_after_33 (by decide) ?_
        refine zU.eqL (L' := [some (zp 51), some (zi (c6 c : Int)), some (zi (e : Int)), some (zi (rI r)), some (zi (zB ((List.range i).any (fSo a e)))), some (zi (zB ((List.range i).all (fPl a c e)))), some (zi (zB ((List.range i).all (fRu a (aMem a r) c e)))), some (zi (s6 (fS a (aMem a r) c e) i)), some (zi ((6 : Int) ^ i)), some (zi (i : Int)), some (zi ((dig c i : Int))), none]) rfl ?_
        refine zU_aload_n d_R_after_35 rfl ?_
        refine zU_iload d_R_after_36 rfl ?_
        refine zU_iload_n d_R_after_38 rfl ?_
        refine zU_callVi (p0 := 51) [zi (i : Int), zi (rI r)] d_R_after_39 k_R_111 rfl (by decide) rfl rfl (by decide) (Nat.le_of_ble_eq_true rfl) (fun l => m_R_takesPart l μ ha hc (i := i) hi hr) (fun r39 μ39 h39 => ?_)
        obtain ⟨hμ39, rfl⟩ := h39
        replace hμ39 := hμ39.symm
        subst hμ39
        have hJ155 : zU Γ b_R_after n_R 12 (some .int) [] (zRm 1 0 24) 0 0 (zFin Γ 0 true (zRi (fun r' μ' => μ' = μ ∧ r' = aAft a (aMem a r) c e))) true 0 μ 155 [some (zp 51), some (zi (c6 c : Int)), some (zi (e : Int)), some (zi (rI r)), some (zi (zB ((List.range (i + 1)).any (fSo a e)))), some (zi (zB ((List.range (i + 1)).all (fPl a c e)))), some (zi (zB ((List.range (i + 1)).all (fRu a (aMem a r) c e)))), some (zi (s6 (fS a (aMem a r) c e) i)), some (zi ((6 : Int) ^ i)), some (zi (i : Int)), some (zi ((fS a (aMem a r) c e) i)), none] [] := by
          refine zU_iload d_R_after_155 rfl ?_
          refine zU_iload d_R_after_157 rfl ?_
          refine zU_iload d_R_after_159 rfl ?_
          refine zU_imul d_R_after_161 ?_
          refine zU_iadd d_R_after_162 ?_
          refine zU_istore d_R_after_163 (by decide) ?_
          refine zU.eqL (L' := [some (zp 51), some (zi (c6 c : Int)), some (zi (e : Int)), some (zi (rI r)), some (zi (zB ((List.range (i + 1)).any (fSo a e)))), some (zi (zB ((List.range (i + 1)).all (fPl a c e)))), some (zi (zB ((List.range (i + 1)).all (fRu a (aMem a r) c e)))), some (zi ((s6 (fS a (aMem a r) c e) i) + (((6 : Int) ^ i) * ((fS a (aMem a r) c e) i)))), some (zi ((6 : Int) ^ i)), some (zi (i : Int)), some (zi ((fS a (aMem a r) c e) i)), none]) rfl ?_
          refine zU.eqL (L' := [some (zp 51), some (zi (c6 c : Int)), some (zi (e : Int)), some (zi (rI r)), some (zi (zB ((List.range (i + 1)).any (fSo a e)))), some (zi (zB ((List.range (i + 1)).all (fPl a c e)))), some (zi (zB ((List.range (i + 1)).all (fRu a (aMem a r) c e)))), some (zi (s6 (fS a (aMem a r) c e) (i + 1))), some (zi ((6 : Int) ^ i)), some (zi (i : Int)), some (zi ((fS a (aMem a r) c e) i)), none]) (rfl) ?_
          refine zU_bipush d_R_after_165 (by decide) ?_
          refine zU_iload d_R_after_167 rfl ?_
          refine zU_imul d_R_after_169 ?_
          refine zU_istore d_R_after_170 (by decide) ?_
          refine zU.eqL (L' := [some (zp 51), some (zi (c6 c : Int)), some (zi (e : Int)), some (zi (rI r)), some (zi (zB ((List.range (i + 1)).any (fSo a e)))), some (zi (zB ((List.range (i + 1)).all (fPl a c e)))), some (zi (zB ((List.range (i + 1)).all (fRu a (aMem a r) c e)))), some (zi (s6 (fS a (aMem a r) c e) (i + 1))), some (zi (6 * ((6 : Int) ^ i))), some (zi (i : Int)), some (zi ((fS a (aMem a r) c e) i)), none]) rfl ?_
          refine zU.eqL (L' := [some (zp 51), some (zi (c6 c : Int)), some (zi (e : Int)), some (zi (rI r)), some (zi (zB ((List.range (i + 1)).any (fSo a e)))), some (zi (zB ((List.range (i + 1)).all (fPl a c e)))), some (zi (zB ((List.range (i + 1)).all (fRu a (aMem a r) c e)))), some (zi (s6 (fS a (aMem a r) c e) (i + 1))), some (zi ((6 : Int) ^ (i + 1))), some (zi (i : Int)), some (zi ((fS a (aMem a r) c e) i)), none]) (by rw [Int.pow_succ, Int.mul_comm]) ?_
          refine zU_iinc d_R_after_172 rfl ?_
          refine zU.eqL (L' := [some (zp 51), some (zi (c6 c : Int)), some (zi (e : Int)), some (zi (rI r)), some (zi (zB ((List.range (i + 1)).any (fSo a e)))), some (zi (zB ((List.range (i + 1)).all (fPl a c e)))), some (zi (zB ((List.range (i + 1)).all (fRu a (aMem a r) c e)))), some (zi (s6 (fS a (aMem a r) c e) (i + 1))), some (zi ((6 : Int) ^ (i + 1))), some (zi (((i + 1 : Nat) : Int))), some (zi ((fS a (aMem a r) c e) i)), none]) (by first | rfl | exact congrArg (fun zz : Int => [some (zp 51), some (zi (c6 c : Int)), some (zi (e : Int)), some (zi (rI r)), some (zi (zB ((List.range (i + 1)).any (fSo a e)))), some (zi (zB ((List.range (i + 1)).all (fPl a c e)))), some (zi (zB ((List.range (i + 1)).all (fRu a (aMem a r) c e)))), some (zi (s6 (fS a (aMem a r) c e) (i + 1))), some (zi ((6 : Int) ^ (i + 1))), some (zi zz), some (zi ((fS a (aMem a r) c e) i)), none]) (show ((i : Int) + 1 : Int) = ((i + 1 : Nat) : Int) by omega)) ?_
          refine zU_goto 18 d_R_after_175 (by decide) ?_
          refine zU.drop 10 (L' := [some (zp 51), some (zi (c6 c : Int)), some (zi (e : Int)), some (zi (rI r)), some (zi (zB ((List.range (i + 1)).any (fSo a e)))), some (zi (zB ((List.range (i + 1)).all (fPl a c e)))), some (zi (zB ((List.range (i + 1)).all (fRu a (aMem a r) c e)))), some (zi (s6 (fS a (aMem a r) c e) (i + 1))), some (zi ((6 : Int) ^ (i + 1))), some (zi (((i + 1 : Nat) : Int))), none, none]) rfl ?_
          exact ih18 (d - 1) (by omega) (i + 1) (by omega)
        refine zU_if_eq 155 d_R_after_42 (by decide) (zBr _) (fun h42 => ?_) (fun h42 => ?_)
        · have b42 := zB_zero.mp h42
          refine zU.eqL (L' := [some (zp 51), some (zi (c6 c : Int)), some (zi (e : Int)), some (zi (rI r)), some (zi (zB ((List.range (i + 1)).any (fSo a e)))), some (zi (zB ((List.range (i + 1)).all (fPl a c e)))), some (zi (zB ((List.range (i + 1)).all (fRu a (aMem a r) c e)))), some (zi (s6 (fS a (aMem a r) c e) i)), some (zi ((6 : Int) ^ i)), some (zi (i : Int)), some (zi ((fS a (aMem a r) c e) i)), none]) (by rw [rng_any, rng_all, rng_all, show fSo a e i = false by simp [fSo, aMem_f hi b42], show fPl a c e i = true by simp [fPl, aMem_f hi b42], show fRu a (aMem a r) c e i = true by simp [fRu, b42], Bool.or_false, Bool.and_true, Bool.and_true, show (fS a (aMem a r) c e) i = (dig c i : Int) by simp [fS, b42]]) ?_
          exact hJ155 
        · have b42 := zB_nz.mp h42
          refine zU_aload_n d_R_after_45 rfl ?_
          refine zU_iload d_R_after_46 rfl ?_
          refine zU_iload_n d_R_after_48 rfl ?_
          refine zU_callVi (p0 := 51) [zi (i : Int), zi (e : Int)] d_R_after_49 k_R_118 rfl (by decide) rfl rfl (by decide) (Nat.le_of_ble_eq_true rfl) (fun l => m_R_has l μ ha hc (i := i) (e := e) hi he) (fun r49 μ49 h49 => ?_)
          obtain ⟨hμ49, rfl⟩ := h49
          replace hμ49 := hμ49.symm
          subst hμ49
          refine zU_if_eq 155 d_R_after_52 (by decide) (zBr _) (fun h52 => ?_) (fun h52 => ?_)
          · have b52 := zB_zero.mp h52
            refine zU.eqL (L' := [some (zp 51), some (zi (c6 c : Int)), some (zi (e : Int)), some (zi (rI r)), some (zi (zB ((List.range (i + 1)).any (fSo a e)))), some (zi (zB ((List.range (i + 1)).all (fPl a c e)))), some (zi (zB ((List.range (i + 1)).all (fRu a (aMem a r) c e)))), some (zi (s6 (fS a (aMem a r) c e) i)), some (zi ((6 : Int) ^ i)), some (zi (i : Int)), some (zi ((fS a (aMem a r) c e) i)), none]) (by rw [rng_any, rng_all, rng_all, show fSo a e i = false by simp [fSo, b52], show fPl a c e i = true by simp [fPl, b52], show fRu a (aMem a r) c e i = true by simp [fRu, b52], Bool.or_false, Bool.and_true, Bool.and_true, show (fS a (aMem a r) c e) i = (dig c i : Int) by simp [fS, b52]]) ?_
            exact hJ155 
          · have b52 := zB_nz.mp h52
            refine zU_iload d_R_after_55 rfl ?_
            have hJ75 : zU Γ b_R_after n_R 12 (some .int) [] (zRm 1 0 24) 0 0 (zFin Γ 0 true (zRi (fun r' μ' => μ' = μ ∧ r' = aAft a (aMem a r) c e))) true 0 μ 75 [some (zp 51), some (zi (c6 c : Int)), some (zi (e : Int)), some (zi (rI r)), some (zi (zB ((List.range i).any (fSo a e)))), some (zi (zB ((List.range i).all (fPl a c e)))), some (zi (zB ((List.range i).all (fRu a (aMem a r) c e)))), some (zi (s6 (fS a (aMem a r) c e) i)), some (zi ((6 : Int) ^ i)), some (zi (i : Int)), some (zi ((dig c i : Int))), none] [zi (zB ((List.range (i + 1)).any (fSo a e)))] := by
              refine zU_istore d_R_after_75 (by decide) ?_
              refine zU.eqL (L' := [some (zp 51), some (zi (c6 c : Int)), some (zi (e : Int)), some (zi (rI r)), some (zi (zB ((List.range (i + 1)).any (fSo a e)))), some (zi (zB ((List.range i).all (fPl a c e)))), some (zi (zB ((List.range i).all (fRu a (aMem a r) c e)))), some (zi (s6 (fS a (aMem a r) c e) i)), some (zi ((6 : Int) ^ i)), some (zi (i : Int)), some (zi ((dig c i : Int))), none]) rfl ?_
              refine zU_aload_n d_R_after_77 rfl ?_
              refine zU_getR 57 d_R_after_78 f_R_26 (by decide) rfl rfl rfl ?_
              refine zU_bipush d_R_after_81 (by decide) ?_
              refine zU_iload d_R_after_83 rfl ?_
              refine zU_imul d_R_after_85 ?_
              refine zU_bipush d_R_after_86 (by decide) ?_
              refine zU_iload d_R_after_88 rfl ?_
              refine zU_imul d_R_after_90 ?_
              refine zU_iadd d_R_after_91 ?_
              refine zU_iload_n d_R_after_92 rfl ?_
              refine zU_iadd d_R_after_93 ?_
              refine zU_iald (v := aE a i (dig c i) e) d_R_after_94 (by decide) rfl (by decide) (by omega) (by rw [show ((72 * (i : Int)) + (12 * (dig c i : Int)) + (e : Int)).toNat = 72 * i + 12 * dig c i + e by omega]; exact ((hA i hi).2.2.2 (dig c i) hdl).2.2 e he) ?_
              refine zU_istore d_R_after_95 (by decide) ?_
              refine zU.eqL (L' := [some (zp 51), some (zi (c6 c : Int)), some (zi (e : Int)), some (zi (rI r)), some (zi (zB ((List.range (i + 1)).any (fSo a e)))), some (zi (zB ((List.range i).all (fPl a c e)))), some (zi (zB ((List.range i).all (fRu a (aMem a r) c e)))), some (zi (s6 (fS a (aMem a r) c e) i)), some (zi ((6 : Int) ^ i)), some (zi (i : Int)), some (zi ((dig c i : Int))), some (zi (aE a i (dig c i) e))]) rfl ?_
              have hEr := ((ha.2 i hi).2.2 (dig c i) e hdl he).1
              have hS := (ha.2 i hi).1
              refine zU_iload d_R_after_97 rfl ?_
              have hJ122 : zU Γ b_R_after n_R 12 (some .int) [] (zRm 1 0 24) 0 0 (zFin Γ 0 true (zRi (fun r' μ' => μ' = μ ∧ r' = aAft a (aMem a r) c e))) true 0 μ 122 [some (zp 51), some (zi (c6 c : Int)), some (zi (e : Int)), some (zi (rI r)), some (zi (zB ((List.range (i + 1)).any (fSo a e)))), some (zi (zB ((List.range i).all (fPl a c e)))), some (zi (zB ((List.range i).all (fRu a (aMem a r) c e)))), some (zi (s6 (fS a (aMem a r) c e) i)), some (zi ((6 : Int) ^ i)), some (zi (i : Int)), some (zi ((dig c i : Int))), some (zi (aE a i (dig c i) e))] [zi (zB ((List.range (i + 1)).all (fPl a c e)))] := by
                refine zU_istore d_R_after_122 (by decide) ?_
                refine zU.eqL (L' := [some (zp 51), some (zi (c6 c : Int)), some (zi (e : Int)), some (zi (rI r)), some (zi (zB ((List.range (i + 1)).any (fSo a e)))), some (zi (zB ((List.range (i + 1)).all (fPl a c e)))), some (zi (zB ((List.range i).all (fRu a (aMem a r) c e)))), some (zi (s6 (fS a (aMem a r) c e) i)), some (zi ((6 : Int) ^ i)), some (zi (i : Int)), some (zi ((dig c i : Int))), some (zi (aE a i (dig c i) e))]) rfl ?_
                refine zU_iload d_R_after_124 rfl ?_
                have hJ149 : zU Γ b_R_after n_R 12 (some .int) [] (zRm 1 0 24) 0 0 (zFin Γ 0 true (zRi (fun r' μ' => μ' = μ ∧ r' = aAft a (aMem a r) c e))) true 0 μ 149 [some (zp 51), some (zi (c6 c : Int)), some (zi (e : Int)), some (zi (rI r)), some (zi (zB ((List.range (i + 1)).any (fSo a e)))), some (zi (zB ((List.range (i + 1)).all (fPl a c e)))), some (zi (zB ((List.range i).all (fRu a (aMem a r) c e)))), some (zi (s6 (fS a (aMem a r) c e) i)), some (zi ((6 : Int) ^ i)), some (zi (i : Int)), some (zi ((dig c i : Int))), some (zi (aE a i (dig c i) e))] [zi (zB ((List.range (i + 1)).all (fRu a (aMem a r) c e)))] := by
                  refine zU_istore d_R_after_149 (by decide) ?_
                  refine zU.eqL (L' := [some (zp 51), some (zi (c6 c : Int)), some (zi (e : Int)), some (zi (rI r)), some (zi (zB ((List.range (i + 1)).any (fSo a e)))), some (zi (zB ((List.range (i + 1)).all (fPl a c e)))), some (zi (zB ((List.range (i + 1)).all (fRu a (aMem a r) c e)))), some (zi (s6 (fS a (aMem a r) c e) i)), some (zi ((6 : Int) ^ i)), some (zi (i : Int)), some (zi ((dig c i : Int))), some (zi (aE a i (dig c i) e))]) rfl ?_
                  refine zU_iload d_R_after_151 rfl ?_
                  refine zU_istore d_R_after_153 (by decide) ?_
                  refine zU.eqL (L' := [some (zp 51), some (zi (c6 c : Int)), some (zi (e : Int)), some (zi (rI r)), some (zi (zB ((List.range (i + 1)).any (fSo a e)))), some (zi (zB ((List.range (i + 1)).all (fPl a c e)))), some (zi (zB ((List.range (i + 1)).all (fRu a (aMem a r) c e)))), some (zi (s6 (fS a (aMem a r) c e) i)), some (zi ((6 : Int) ^ i)), some (zi (i : Int)), some (zi (aE a i (dig c i) e)), some (zi (aE a i (dig c i) e))]) rfl ?_
                  refine zU.drop 11 (L' := [some (zp 51), some (zi (c6 c : Int)), some (zi (e : Int)), some (zi (rI r)), some (zi (zB ((List.range (i + 1)).any (fSo a e)))), some (zi (zB ((List.range (i + 1)).all (fPl a c e)))), some (zi (zB ((List.range (i + 1)).all (fRu a (aMem a r) c e)))), some (zi (s6 (fS a (aMem a r) c e) i)), some (zi ((6 : Int) ^ i)), some (zi (i : Int)), some (zi (aE a i (dig c i) e)), none]) rfl ?_
                  refine zU.eqL (L' := [some (zp 51), some (zi (c6 c : Int)), some (zi (e : Int)), some (zi (rI r)), some (zi (zB ((List.range (i + 1)).any (fSo a e)))), some (zi (zB ((List.range (i + 1)).all (fPl a c e)))), some (zi (zB ((List.range (i + 1)).all (fRu a (aMem a r) c e)))), some (zi (s6 (fS a (aMem a r) c e) i)), some (zi ((6 : Int) ^ i)), some (zi (i : Int)), some (zi ((fS a (aMem a r) c e) i)), none]) (by rw [show (fS a (aMem a r) c e) i = aE a i (dig c i) e by simp [fS, b42, b52]]) ?_
                  exact hJ155 
                refine zU_if_eq 148 d_R_after_126 (by decide) (zBr _) (fun h126 => ?_) (fun h126 => ?_)
                · have b126 := zB_zero.mp h126
                  refine zU_iconst d_R_after_148 ?_
                  refine zU.eqS (st' := [zi (zB ((List.range (i + 1)).all (fRu a (aMem a r) c e)))]) (congrArg (fun zz : Int => [zi zz]) (show (0 : Int) = zB ((List.range (i + 1)).all (fRu a (aMem a r) c e)) from (zBf (by simp [rng_all, b126])).symm)) ?_
                  exact hJ149 
                · have b126 := zB_nz.mp h126
                  refine zU_iload d_R_after_129 rfl ?_
                  refine zU_if_ge 144 d_R_after_131 (by decide) (by omega) (fun h131 => ?_) (fun h131 => ?_)
                  · refine zU_iconst d_R_after_144 ?_
                    refine zU_goto 149 d_R_after_145 (by decide) ?_
                    refine zU.eqS (st' := [zi (zB ((List.range (i + 1)).all (fRu a (aMem a r) c e)))]) (congrArg (fun zz : Int => [zi zz]) (show (1 : Int) = zB ((List.range (i + 1)).all (fRu a (aMem a r) c e)) from (zBt (by have h9 : 0 ≤ aE a i (dig c i) e := (by omega); simp [rng_all, b126, fRu, h9])).symm)) ?_
                    exact hJ149 
                  · refine zU_aload_n d_R_after_134 rfl ?_
                    refine zU_getR 53 d_R_after_135 f_R_13 (by decide) rfl rfl rfl ?_
                    refine zU_iload d_R_after_138 rfl ?_
                    refine zU_zald (v := zB (aP a i)) d_R_after_140 (by decide) rfl (by decide) (by omega) ((hA i hi).2.1) ?_
                    refine zU_if_eq 148 d_R_after_141 (by decide) (zBr _) (fun h141 => ?_) (fun h141 => ?_)
                    · have b141 := zB_zero.mp h141
                      refine zU_iconst d_R_after_148 ?_
                      refine zU.eqS (st' := [zi (zB ((List.range (i + 1)).all (fRu a (aMem a r) c e)))]) (congrArg (fun zz : Int => [zi zz]) (show (0 : Int) = zB ((List.range (i + 1)).all (fRu a (aMem a r) c e)) from (zBf (by have h9 : ¬ 0 ≤ aE a i (dig c i) e := (by omega); simp [rng_all, fRu, b141, b42, b52, h9])).symm)) ?_
                      exact hJ149 
                    · have b141 := zB_nz.mp h141
                      refine zU_iconst d_R_after_144 ?_
                      refine zU_goto 149 d_R_after_145 (by decide) ?_
                      refine zU.eqS (st' := [zi (zB ((List.range (i + 1)).all (fRu a (aMem a r) c e)))]) (congrArg (fun zz : Int => [zi zz]) (show (1 : Int) = zB ((List.range (i + 1)).all (fRu a (aMem a r) c e)) from (zBt (by simp [rng_all, b126, fRu, b141])).symm)) ?_
                      exact hJ149 
              refine zU_if_eq 121 d_R_after_99 (by decide) (zBr _) (fun h99 => ?_) (fun h99 => ?_)
              · have b99 := zB_zero.mp h99
                refine zU_iconst d_R_after_121 ?_
                refine zU.eqS (st' := [zi (zB ((List.range (i + 1)).all (fPl a c e)))]) (congrArg (fun zz : Int => [zi zz]) (show (0 : Int) = zB ((List.range (i + 1)).all (fPl a c e)) from (zBf (by simp [rng_all, b99])).symm)) ?_
                exact hJ122 
              · have b99 := zB_nz.mp h99
                refine zU_iload d_R_after_102 rfl ?_
                refine zU_if_ge 117 d_R_after_104 (by decide) (by omega) (fun h104 => ?_) (fun h104 => ?_)
                · refine zU_iconst d_R_after_117 ?_
                  refine zU_goto 122 d_R_after_118 (by decide) ?_
                  refine zU.eqS (st' := [zi (zB ((List.range (i + 1)).all (fPl a c e)))]) (congrArg (fun zz : Int => [zi zz]) (show (1 : Int) = zB ((List.range (i + 1)).all (fPl a c e)) from (zBt (by have h9 : 0 ≤ aE a i (dig c i) e := (by omega); simp [rng_all, b99, fPl, h9])).symm)) ?_
                  exact hJ122 
                · refine zU_aload_n d_R_after_107 rfl ?_
                  refine zU_getR 53 d_R_after_108 f_R_13 (by decide) rfl rfl rfl ?_
                  refine zU_iload d_R_after_111 rfl ?_
                  refine zU_zald (v := zB (aP a i)) d_R_after_113 (by decide) rfl (by decide) (by omega) ((hA i hi).2.1) ?_
                  refine zU_if_ne 121 d_R_after_114 (by decide) (zBr _) (fun h114 => ?_) (fun h114 => ?_)
                  · have b114 := zB_nz.mp h114
                    refine zU_iconst d_R_after_121 ?_
                    refine zU.eqS (st' := [zi (zB ((List.range (i + 1)).all (fPl a c e)))]) (congrArg (fun zz : Int => [zi zz]) (show (0 : Int) = zB ((List.range (i + 1)).all (fPl a c e)) from (zBf (by have h9 : ¬ 0 ≤ aE a i (dig c i) e := (by omega); simp [rng_all, fPl, b114, b52, h9])).symm)) ?_
                    exact hJ122 
                  · have b114 := zB_zero.mp h114
                    refine zU_iconst d_R_after_117 ?_
                    refine zU_goto 122 d_R_after_118 (by decide) ?_
                    refine zU.eqS (st' := [zi (zB ((List.range (i + 1)).all (fPl a c e)))]) (congrArg (fun zz : Int => [zi zz]) (show (1 : Int) = zB ((List.range (i + 1)).all (fPl a c e)) from (zBt (by simp [rng_all, b99, fPl, b114])).symm)) ?_
                    exact hJ122 
            refine zU_if_ne 70 d_R_after_57 (by decide) (zBr _) (fun h57 => ?_) (fun h57 => ?_)
            · have b57 := zB_nz.mp h57
              refine zU_iconst d_R_after_70 ?_
              refine zU_goto 75 d_R_after_71 (by decide) ?_
              refine zU.eqS (st' := [zi (zB ((List.range (i + 1)).any (fSo a e)))]) (congrArg (fun zz : Int => [zi zz]) (show (1 : Int) = zB ((List.range (i + 1)).any (fSo a e)) from (zBt (by simp [rng_any, b57])).symm)) ?_
              exact hJ75 
            · have b57 := zB_zero.mp h57
              refine zU_aload_n d_R_after_60 rfl ?_
              refine zU_getR 53 d_R_after_61 f_R_13 (by decide) rfl rfl rfl ?_
              refine zU_iload d_R_after_64 rfl ?_
              refine zU_zald (v := zB (aP a i)) d_R_after_66 (by decide) rfl (by decide) (by omega) ((hA i hi).2.1) ?_
              refine zU_if_eq 74 d_R_after_67 (by decide) (zBr _) (fun h67 => ?_) (fun h67 => ?_)
              · have b67 := zB_zero.mp h67
                refine zU_iconst d_R_after_74 ?_
                refine zU.eqS (st' := [zi (zB ((List.range (i + 1)).any (fSo a e)))]) (congrArg (fun zz : Int => [zi zz]) (show (0 : Int) = zB ((List.range (i + 1)).any (fSo a e)) from (zBf (by simp [rng_any, b57, fSo, b67])).symm)) ?_
                exact hJ75 
              · have b67 := zB_nz.mp h67
                refine zU_iconst d_R_after_70 ?_
                refine zU_goto 75 d_R_after_71 (by decide) ?_
                refine zU.eqS (st' := [zi (zB ((List.range (i + 1)).any (fSo a e)))]) (congrArg (fun zz : Int => [zi zz]) (show (1 : Int) = zB ((List.range (i + 1)).any (fSo a e)) from (zBt (by simp [rng_any, fSo, b67, b52])).symm)) ?_
                exact hJ75 
  exact hJ18 (aN a) 0 (by omega)
set_option maxRecDepth 100000 in
set_option maxHeartbeats 4000000 in
theorem m_R_placeOf (l : Launch) (μ : zM) {L : List Nat} {w c : Nat} (hw : w < 3) (hL : L.length ≤ 200) (hs : μ 60 w = (L.length : Int)) (hW : ∀ k x : Nat, L[k]? = some x → x < 2147483648 ∧ μ 61 (200 * w + k) = (x : Int)) (hc : c < 2147483648) :
    zC l y_R_placeOf b_R_placeOf 4 (some .int) [] 0 0 0 false [zp 51, zi (w : Int), zi (c : Int)] μ (zRi (fun r μ' => (∃ k : Nat, L[k]? = some c ∧ r = (k : Int) ∧ μ' = μ) ∨ (c ∉ L ∧ L.length = 200 ∧ r = -1 ∧ μ' = μ) ∨ (c ∉ L ∧ L.length < 200 ∧ r = (L.length : Int) ∧ μ' = zup (zup μ 61 (200 * w + L.length) (c : Int)) 60 w ((L.length + 1 : Nat) : Int)))) := by
  refine zC.of (own := n_R) (L := [some (zp 51), some (zi (w : Int)), some (zi (c : Int)), none]) (by decide) rfl (by simp [zcat]) (Nat.le_of_ble_eq_true rfl) rfl (fun Γ => ?_)
  refine zU_iconst d_R_placeOf_0 ?_
  refine zU_istore_n d_R_placeOf_1 (by decide) ?_
  refine zU.eqL (L' := [some (zp 51), some (zi (w : Int)), some (zi (c : Int)), some (zi 0)]) rfl ?_
  have hJ2 : ∀ (d : Nat) (k : Nat), k + d = L.length → (∀ j, j < k → L[j]? ≠ some c) → zU Γ b_R_placeOf n_R 4 (some .int) [] (zRm 0 0 0) 0 0 (zFin Γ 0 false (zRi (fun r μ' => (∃ k : Nat, L[k]? = some c ∧ r = (k : Int) ∧ μ' = μ) ∨ (c ∉ L ∧ L.length = 200 ∧ r = -1 ∧ μ' = μ) ∨ (c ∉ L ∧ L.length < 200 ∧ r = (L.length : Int) ∧ μ' = zup (zup μ 61 (200 * w + L.length) (c : Int)) 60 w ((L.length + 1 : Nat) : Int))))) true 0 μ 2 [some (zp 51), some (zi (w : Int)), some (zi (c : Int)), some (zi (k : Int))] [] := by
    intro d
    induction d using Nat.strongRecOn with
    | _ d ih2 =>
      intro k hd hj
      refine zU_iload_n d_R_placeOf_2 rfl ?_
      refine zU_aload_n d_R_placeOf_3 rfl ?_
      refine zU_getR 60 d_R_placeOf_4 f_R_35 (by decide) rfl rfl rfl ?_
      refine zU_iload_n d_R_placeOf_7 rfl ?_
      refine zU_iald (v := (L.length : Int)) d_R_placeOf_8 (by decide) rfl (by decide) (by omega) (hs) ?_
      refine zU_icmp_ge 36 d_R_placeOf_9 (by decide) (by omega) (by omega) (fun h9 => ?_) (fun h9 => ?_)
      · have hno : c ∉ L := fun hm => by
          obtain ⟨j, hj'⟩ := List.getElem?_of_mem hm
          exact hj j (by have := (List.getElem?_eq_some_iff.mp hj').1; omega) hj'
        refine zU_aload_n d_R_placeOf_36 rfl ?_
        refine zU_getR 60 d_R_placeOf_37 f_R_35 (by decide) rfl rfl rfl ?_
        refine zU_iload_n d_R_placeOf_40 rfl ?_
        refine zU_iald (v := (L.length : Int)) d_R_placeOf_41 (by decide) rfl (by decide) (by omega) (hs) ?_
        refine zU_sipush d_R_placeOf_42 (by decide) ?_
        refine zU_icmp_ne 50 d_R_placeOf_45 (by decide) (by omega) (by omega) (fun h45 => ?_) (fun h45 => ?_)
        · refine zU_aload_n d_R_placeOf_50 rfl ?_
          refine zU_getR 61 d_R_placeOf_51 f_R_38 (by decide) rfl rfl rfl ?_
          refine zU_sipush d_R_placeOf_54 (by decide) ?_
          refine zU_iload_n d_R_placeOf_57 rfl ?_
          refine zU_imul d_R_placeOf_58 ?_
          refine zU_aload_n d_R_placeOf_59 rfl ?_
          refine zU_getR 60 d_R_placeOf_60 f_R_35 (by decide) rfl rfl rfl ?_
          refine zU_iload_n d_R_placeOf_63 rfl ?_
          refine zU_iald (v := (L.length : Int)) d_R_placeOf_64 (by decide) rfl (by decide) (by omega) (hs) ?_
          refine zU_iadd d_R_placeOf_65 ?_
          refine zU_iload_n d_R_placeOf_66 rfl ?_
          refine zU_iast d_R_placeOf_67 (by decide) rfl (by decide) (by omega) ?_
          refine zU.eqM (μ' := zup μ 61 (200 * w + L.length) (c : Int)) (by rw [show ((200 * (w : Int)) + (L.length : Int)).toNat = 200 * w + L.length by omega]) ?_
          refine zU_aload_n d_R_placeOf_68 rfl ?_
          refine zU_getR 60 d_R_placeOf_69 f_R_35 (by decide) rfl rfl rfl ?_
          refine zU_iload_n d_R_placeOf_72 rfl ?_
          refine zU_dup2 d_R_placeOf_73 rfl rfl ?_
          refine zU_iald (v := (L.length : Int)) d_R_placeOf_74 (by decide) rfl (by decide) (by omega) (by rw [zup_ne _ _ _ (by decide)]; exact hs) ?_
          refine zU_iconst d_R_placeOf_75 ?_
          refine zU_iadd d_R_placeOf_76 ?_
          refine zU_iast d_R_placeOf_77 (by decide) rfl (by decide) (by omega) ?_
          refine zU.eqM (μ' := zup (zup μ 61 (200 * w + L.length) (c : Int)) 60 w ((L.length + 1 : Nat) : Int)) rfl ?_
          refine zU_aload_n d_R_placeOf_78 rfl ?_
          refine zU_getR 60 d_R_placeOf_79 f_R_35 (by decide) rfl rfl rfl ?_
          refine zU_iload_n d_R_placeOf_82 rfl ?_
          refine zU_iald (v := ((L.length + 1 : Nat) : Int)) d_R_placeOf_83 (by decide) rfl (by decide) (by omega) (by rw [zup_at]; simp) ?_
          refine zU_iconst d_R_placeOf_84 ?_
          refine zU_isub d_R_placeOf_85 ?_
          exact zU_ireturn d_R_placeOf_86 (Or.inl rfl) (by decide) (by decide) (⟨_, rfl, Or.inr (Or.inr ⟨hno, by omega, by omega, rfl⟩)⟩)
        · refine zU_iconst d_R_placeOf_48 ?_
          exact zU_ireturn d_R_placeOf_49 (Or.inl rfl) (by decide) (by decide) (⟨_, rfl, Or.inr (Or.inl ⟨hno, by omega, rfl, rfl⟩)⟩)
      · obtain ⟨x, hx⟩ : ∃ x, L[k]? = some x := ⟨_, List.getElem?_eq_getElem (by omega)⟩
        have hx2 := hW k x hx
        refine zU_aload_n d_R_placeOf_12 rfl ?_
        refine zU_getR 61 d_R_placeOf_13 f_R_38 (by decide) rfl rfl rfl ?_
        refine zU_sipush d_R_placeOf_16 (by decide) ?_
        refine zU_iload_n d_R_placeOf_19 rfl ?_
        refine zU_imul d_R_placeOf_20 ?_
        refine zU_iload_n d_R_placeOf_21 rfl ?_
        refine zU_iadd d_R_placeOf_22 ?_
        refine zU_iald (v := (x : Int)) d_R_placeOf_23 (by decide) rfl (by decide) (by omega) (by rw [show ((200 * (w : Int)) + (k : Int)).toNat = 200 * w + k by omega]; exact hx2.2) ?_
        refine zU_iload_n d_R_placeOf_24 rfl ?_
        refine zU_icmp_ne 30 d_R_placeOf_25 (by decide) (by omega) (by omega) (fun h25 => ?_) (fun h25 => ?_)
        · refine zU_iinc d_R_placeOf_30 rfl ?_
          refine zU.eqL (L' := [some (zp 51), some (zi (w : Int)), some (zi (c : Int)), some (zi (((k + 1 : Nat) : Int)))]) (by first | rfl | exact congrArg (fun zz : Int => [some (zp 51), some (zi (w : Int)), some (zi (c : Int)), some (zi zz)]) (show ((k : Int) + 1 : Int) = ((k + 1 : Nat) : Int) by omega)) ?_
          refine zU_goto 2 d_R_placeOf_33 (by decide) ?_
          exact ih2 (d - 1) (by omega) (k + 1) (by omega) (fun j hj' => by by_cases h : j = k; { rw [h, hx]; intro h9; exact h25 (by rw [Option.some.inj h9]) }; { exact hj j (by omega) })
        · refine zU_iload_n d_R_placeOf_28 rfl ?_
          exact zU_ireturn d_R_placeOf_29 (Or.inl rfl) (by decide) (by decide) (⟨_, rfl, Or.inl ⟨k, by rw [hx]; congr 1; omega, rfl, rfl⟩⟩)
  exact hJ2 L.length 0 (by omega) (fun j hj => absurd hj (by omega))
