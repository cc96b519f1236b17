/-! the reference: its picture of the automata, its small methods -/
theorem zBt {b : Bool} (h : b = true) : zB b = 1 := by rw [h]; rfl
theorem zBf {b : Bool} (h : b = false) : zB b = 0 := by rw [h]; rfl
def rAut (a : aT) (i : Nat) (μ : zM) : Prop := μ 52 i = (aS a i : Int) ∧ μ 53 i = zB (aP a i) ∧ μ 54 i = aI a i ∧ ∀ s, s < 6 → μ 55 (6 * i + s) = zB (aM a i s) ∧ μ 56 (6 * i + s) = zB (aF a i s) ∧ ∀ e, e < 12 → μ 57 (72 * i + 12 * s + e) = aE a i s e
def rRep (a : aT) (μ : zM) : Prop := μ 51 1 = (aN a : Int) ∧ (∀ i, i < aN a → rAut a i μ) ∧ ∀ e, e < 12 → μ 58 e = zB (aD a e) ∧ (μ 59 e = 0 ∨ μ 59 e = 1) ∧ (aD a e = true → μ 59 e = zB (aC a e))
theorem rRep_congr {a : aT} {μ μ' : zM} (h : rRep a μ) (h1 : μ' 51 1 = μ 51 1) (hq : ∀ q, 52 ≤ q → q ≤ 59 → μ' q = μ q) : rRep a μ' := by
  unfold rRep rAut
  rw [h1, hq 52 (by omega) (by omega), hq 53 (by omega) (by omega), hq 54 (by omega) (by omega), hq 55 (by omega) (by omega), hq 56 (by omega) (by omega), hq 57 (by omega) (by omega), hq 58 (by omega) (by omega), hq 59 (by omega) (by omega)]
  exact h
def tcd (p q : Bool) : Int := if p = true then 1 else if q = true then 2 else 0
theorem tcd_r (p q : Bool) : -2147483648 ≤ tcd p q ∧ tcd p q ≤ 2147483647 := by cases p <;> cases q <;> decide
theorem tcd_0 (p q : Bool) : tcd p q ≤ 0 ↔ (p || q) = false := by cases p <;> cases q <;> decide
def rI (r : Option Nat) : Int := match r with
  | none => -1
  | some x => (x : Int)
theorem any6 {a : aT} (ha : aOk a) {i e : Nat} (hi : i < aN a) (he : e < 12) : (List.range (aS a i)).any (fun s => decide (0 ≤ aE a i s e)) = aH a i e := by
  have hS := (ha.2 i hi).1
  unfold aH
  cases h : (List.range 6).any (fun s => decide (0 ≤ aE a i s e))
  · apply any_not
    intro s hs
    exact any_none h (by omega)
  · obtain ⟨s, hs, h1⟩ := any_iff.mp h
    refine any_iff.mpr ⟨s, ?_, h1⟩
    by_cases hss : s < aS a i
    · exact hss
    · have := ((ha.2 i hi).2.2 s e hs he).2.1 (by omega)
      simp only [decide_eq_true_eq] at h1
      omega
theorem d6 (c k : Nat) : (((c / 6 ^ k : Nat) : Int) / 6) = ((c / 6 ^ (k + 1) : Nat) : Int) := by
  rw [Nat.pow_succ, ← Nat.div_div_eq_div_mul]
  rfl
theorem d6_le (c k : Nat) : c / 6 ^ k ≤ c := Nat.div_le_self _ _
theorem d6_s {c : Nat} (hc : c < 2147483648) (k : Nat) : 0 ≤ ((c / 6 ^ k : Nat) : Int) ∧ ((c / 6 ^ k : Nat) : Int) ≤ 2147483647 := by
  have := d6_le c k
  generalize c / 6 ^ k = z at *
  omega
theorem nd_t {p : Prop} [Decidable p] (h : (!decide p) = true) : ¬ p := by simpa using h
theorem nd_f {p : Prop} [Decidable p] (h : (!decide p) = false) : p := by simpa using h
set_option maxRecDepth 100000 in
set_option maxHeartbeats 4000000 in
theorem m_R_thrown (l : Launch) (μ : zM)  :
    zC l y_R_thrown b_R_thrown 1 (some .int) [] 0 0 0 true [zp 51] μ (zRi (fun r μ' => μ' = μ ∧ r = μ 51 0)) := by
  refine zC.of (own := n_R) (L := [some (zp 51)]) (by decide) rfl (by simp [zcat]) (Nat.le_of_ble_eq_true rfl) rfl (fun Γ => ?_)
  refine zU_aload_n d_R_thrown_0 rfl ?_
  refine zU_getI (v := μ 51 0) d_R_thrown_1 f_R_83 (by decide) rfl rfl (rfl) ?_
  exact zU_ireturn d_R_thrown_4 (Or.inl rfl) (by decide) (by decide) (⟨_, rfl, rfl, rfl⟩)
set_option maxRecDepth 100000 in
set_option maxHeartbeats 4000000 in
theorem m_R_throwing (l : Launch) (μ : zM) {p q : Bool} :
    zC l y_R_throwing b_R_throwing 3 (some .boolean) [] 0 0 0 false [zp 51, zi (zB p), zi (zB q)] μ (zRi (fun r μ' => r = zB (p || q) ∧ μ' = zup μ 51 0 (tcd p q))) := by
  refine zC.of (own := n_R) (L := [some (zp 51), some (zi (zB p)), some (zi (zB q))]) (by decide) rfl (by simp [zcat]) (Nat.le_of_ble_eq_true rfl) rfl (fun Γ => ?_)
  refine zU_aload_n d_R_throwing_0 rfl ?_
  refine zU_iload_n d_R_throwing_1 rfl ?_
  have hJ18 : zU Γ b_R_throwing n_R 3 (some .boolean) [] (zRm 0 0 0) 0 0 (zFin Γ 0 false (zRi (fun r μ' => r = zB (p || q) ∧ μ' = zup μ 51 0 (tcd p q)))) true 0 μ 18 [some (zp 51), some (zi (zB p)), some (zi (zB q))] [zi (tcd p q), zp 51] := by
    refine zU_putI d_R_throwing_18 f_R_83 p_R_thrown (by decide) rfl rfl (Or.inl rfl) ?_
    refine zU_aload_n d_R_throwing_21 rfl ?_
    refine zU_getI (v := tcd p q) d_R_throwing_22 f_R_83 (by decide) rfl rfl (by rw [zup_at]; simp) ?_
    refine zU_if_le 32 d_R_throwing_25 (by decide) (tcd_r _ _) (fun h25 => ?_) (fun h25 => ?_)
    · refine zU_iconst d_R_throwing_32 ?_
      exact zU_ireturn d_R_throwing_33 (Or.inr ⟨rfl, by omega⟩) (by decide) (by decide) (⟨_, rfl, (zBf ((tcd_0 p q).mp h25)).symm, rfl⟩)
    · refine zU_iconst d_R_throwing_28 ?_
      refine zU_goto 33 d_R_throwing_29 (by decide) ?_
      exact zU_ireturn d_R_throwing_33 (Or.inr ⟨rfl, by omega⟩) (by decide) (by decide) (⟨_, rfl, by cases hb : (p || q); { exact absurd ((tcd_0 p q).mpr hb) h25 }; { rfl }, rfl⟩)
  refine zU_if_eq 9 d_R_throwing_2 (by decide) (zBr _) (fun h2 => ?_) (fun h2 => ?_)
  · have b2 := zB_zero.mp h2
    refine zU_iload_n d_R_throwing_9 rfl ?_
    refine zU_if_eq 17 d_R_throwing_10 (by decide) (zBr _) (fun h10 => ?_) (fun h10 => ?_)
    · have b10 := zB_zero.mp h10
      refine zU_iconst d_R_throwing_17 ?_
      refine zU.eqS (st' := [zi (tcd p q), zp 51]) (by simp [tcd, b2, b10]) ?_
      exact hJ18 
    · have b10 := zB_nz.mp h10
      refine zU_iconst d_R_throwing_13 ?_
      refine zU_goto 18 d_R_throwing_14 (by decide) ?_
      refine zU.eqS (st' := [zi (tcd p q), zp 51]) (by simp [tcd, b2, b10]) ?_
      exact hJ18 
  · have b2 := zB_nz.mp h2
    refine zU_iconst d_R_throwing_5 ?_
    refine zU_goto 18 d_R_throwing_6 (by decide) ?_
    refine zU.eqS (st' := [zi (tcd p q), zp 51]) (by simp [tcd, b2]) ?_
    exact hJ18 
set_option maxRecDepth 100000 in
set_option maxHeartbeats 4000000 in
theorem m_R_out (l : Launch) (μ : zM) {x y : Int} (hx : -2147483648 ≤ x ∧ x ≤ 2147483647) (hy : -2147483648 ≤ y ∧ y ≤ 2147483647) :
    zC l y_R_out b_R_out 2 (some .boolean) [] 0 0 0 true [zi x, zi y] μ (zRi (fun r μ' => μ' = μ ∧ r = zB (!decide (0 ≤ x ∧ x < y)))) := by
  refine zC.of (own := n_R) (L := [some (zi x), some (zi y)]) (by decide) rfl (by simp [zcat]) (Nat.le_of_ble_eq_true rfl) rfl (fun Γ => ?_)
  refine zU_iload_n d_R_out_0 rfl ?_
  refine zU_if_lt 9 d_R_out_1 (by decide) (by omega) (fun h1 => ?_) (fun h1 => ?_)
  · refine zU_iconst d_R_out_9 ?_
    refine zU_goto 14 d_R_out_10 (by decide) ?_
    exact zU_ireturn d_R_out_14 (Or.inr ⟨rfl, by omega⟩) (by decide) (by decide) (⟨_, rfl, rfl, (zBt (by have : ¬ (0 ≤ x ∧ x < y) := (by omega); simp [this])).symm⟩)
  · refine zU_iload_n d_R_out_4 rfl ?_
    refine zU_iload_n d_R_out_5 rfl ?_
    refine zU_icmp_lt 13 d_R_out_6 (by decide) (by omega) (by omega) (fun h6 => ?_) (fun h6 => ?_)
    · refine zU_iconst d_R_out_13 ?_
      exact zU_ireturn d_R_out_14 (Or.inr ⟨rfl, by omega⟩) (by decide) (by decide) (⟨_, rfl, rfl, (zBf (by have : (0 ≤ x ∧ x < y) := (by omega); simp [this])).symm⟩)
    · refine zU_iconst d_R_out_9 ?_
      refine zU_goto 14 d_R_out_10 (by decide) ?_
      exact zU_ireturn d_R_out_14 (Or.inr ⟨rfl, by omega⟩) (by decide) (by decide) (⟨_, rfl, rfl, (zBt (by have : ¬ (0 ≤ x ∧ x < y) := (by omega); simp [this])).symm⟩)
set_option maxRecDepth 100000 in
set_option maxHeartbeats 4000000 in
theorem m_R_change (l : Launch) (μ : zM)  :
    zC l y_R_change b_R_change 1 none [] 0 0 0 false [zp 51] μ (zRv (fun μ' => μ' = zup (zup μ 51 17 0) 51 18 0)) := by
  refine zC.of (own := n_R) (L := [some (zp 51)]) (by decide) rfl (by simp [zcat]) (Nat.le_of_ble_eq_true rfl) rfl (fun Γ => ?_)
  refine zU_aload_n d_R_change_0 rfl ?_
  refine zU_iconst d_R_change_1 ?_
  refine zU_putI d_R_change_2 f_R_87 p_R_result (by decide) rfl rfl (Or.inr ⟨rfl, by omega⟩) ?_
  refine zU_aload_n d_R_change_5 rfl ?_
  refine zU_iconst d_R_change_6 ?_
  refine zU_putI d_R_change_7 f_R_91 p_R_kept (by decide) rfl rfl (Or.inl rfl) ?_
  exact zU_return d_R_change_10 rfl (by decide) (by decide) (⟨rfl, rfl⟩)
set_option maxRecDepth 100000 in
set_option maxHeartbeats 4000000 in
theorem m_R_isNoState (l : Launch) (μ : zM) {a : aT} (ha : aOk a) (hc : rRep a μ) {x s : Int} (hx : -2147483648 ≤ x ∧ x ≤ 2147483647) (hs : -2147483648 ≤ s ∧ s ≤ 2147483647) :
    zC l y_R_isNoState b_R_isNoState 3 (some .boolean) [] 1 0 21 true [zp 51, zi x, zi s] μ (zRi (fun r μ' => μ' = μ ∧ r = zB (!decide (0 ≤ x ∧ x < aN a ∧ 0 ≤ s ∧ s < aS a x.toNat)))) := by
  refine zC.of (own := n_R) (L := [some (zp 51), some (zi x), some (zi s)]) (by decide) rfl (by simp [zcat]) (Nat.le_of_ble_eq_true rfl) rfl (fun Γ => ?_)
  obtain ⟨hN, hA, hE⟩ := id hc
  have hN4 := ha.1
  refine zU_iload_n d_R_isNoState_0 rfl ?_
  refine zU_aload_n d_R_isNoState_1 rfl ?_
  refine zU_getI (v := (aN a : Int)) d_R_isNoState_2 f_R_98 (by decide) rfl rfl (hN) ?_
  refine zU_callSi [zi x, zi ((aN a : Int))] d_R_isNoState_5 k_R_94 rfl (by decide) (Nat.le_of_ble_eq_true rfl) (fun l => m_R_out l μ hx (by omega)) (fun r5 μ5 h5 => ?_)
  obtain ⟨hμ5, rfl⟩ := h5
  replace hμ5 := hμ5.symm
  subst hμ5
  refine zU_if_ne 24 d_R_isNoState_8 (by decide) (zBr _) (fun h8 => ?_) (fun h8 => ?_)
  · have b8 := zB_nz.mp h8
    refine zU_iconst d_R_isNoState_24 ?_
    refine zU_goto 29 d_R_isNoState_25 (by decide) ?_
    exact zU_ireturn d_R_isNoState_29 (Or.inr ⟨rfl, by omega⟩) (by decide) (by decide) (⟨_, rfl, rfl, (zBt (by have g1 : ¬ (0 ≤ x ∧ x < (aN a : Int)) := nd_t b8; have : ¬ (0 ≤ x ∧ x < aN a ∧ 0 ≤ s ∧ s < aS a x.toNat) := (by omega); simp [this])).symm⟩)
  · have b8 := zB_zero.mp h8
    have g1 : 0 ≤ x ∧ x < (aN a : Int) := nd_f b8
    have hS := (ha.2 x.toNat (by omega)).1
    refine zU_iload_n d_R_isNoState_11 rfl ?_
    refine zU_aload_n d_R_isNoState_12 rfl ?_
    refine zU_getR 52 d_R_isNoState_13 f_R_7 (by decide) rfl rfl rfl ?_
    refine zU_iload_n d_R_isNoState_16 rfl ?_
    refine zU_iald (v := (aS a x.toNat : Int)) d_R_isNoState_17 (by decide) rfl (by decide) (by omega) (by rw [(hA x.toNat (by omega)).1]) ?_
    refine zU_callSi [zi s, zi ((aS a x.toNat : Int))] d_R_isNoState_18 k_R_94 rfl (by decide) (Nat.le_of_ble_eq_true rfl) (fun l => m_R_out l μ hs (by omega)) (fun r18 μ18 h18 => ?_)
    obtain ⟨hμ18, rfl⟩ := h18
    replace hμ18 := hμ18.symm
    subst hμ18
    refine zU_if_eq 28 d_R_isNoState_21 (by decide) (zBr _) (fun h21 => ?_) (fun h21 => ?_)
    · have b21 := zB_zero.mp h21
      refine zU_iconst d_R_isNoState_28 ?_
      exact zU_ireturn d_R_isNoState_29 (Or.inr ⟨rfl, by omega⟩) (by decide) (by decide) (⟨_, rfl, rfl, (zBf (by have g2 : (0 ≤ s ∧ s < (aS a x.toNat : Int)) := nd_f b21; have : (0 ≤ x ∧ x < aN a ∧ 0 ≤ s ∧ s < aS a x.toNat) := (by omega); simp [this])).symm⟩)
    · have b21 := zB_nz.mp h21
      refine zU_iconst d_R_isNoState_24 ?_
      refine zU_goto 29 d_R_isNoState_25 (by decide) ?_
      exact zU_ireturn d_R_isNoState_29 (Or.inr ⟨rfl, by omega⟩) (by decide) (by decide) (⟨_, rfl, rfl, (zBt (by have g2 : ¬ (0 ≤ s ∧ s < (aS a x.toNat : Int)) := nd_t b21; have : ¬ (0 ≤ x ∧ x < aN a ∧ 0 ≤ s ∧ s < aS a x.toNat) := (by omega); simp [this])).symm⟩)
set_option maxRecDepth 100000 in
set_option maxHeartbeats 4000000 in
theorem m_R_has (l : Launch) (μ : zM) {a : aT} (ha : aOk a) (hc : rRep a μ) {i e : Nat} (hi : i < aN a) (he : e < 12) :
    zC l y_R_has b_R_has 5 (some .boolean) [] 0 0 0 true [zp 51, zi (i : Int), zi (e : Int)] μ (zRi (fun r μ' => μ' = μ ∧ r = zB (aH a i e))) := by
  refine zC.of (own := n_R) (L := [some (zp 51), some (zi (i : Int)), some (zi (e : Int)), none, none]) (by decide) rfl (by simp [zcat]) (Nat.le_of_ble_eq_true rfl) rfl (fun Γ => ?_)
  obtain ⟨hN, hA, hE⟩ := id hc
  have hN4 := ha.1
  have hS := (ha.2 i hi).1
  refine zU_iconst d_R_has_0 ?_
  refine zU_istore_n d_R_has_1 (by decide) ?_
  refine zU.eqL (L' := [some (zp 51), some (zi (i : Int)), some (zi (e : Int)), some (zi 0), none]) rfl ?_
  refine zU_iconst d_R_has_2 ?_
  refine zU_istore d_R_has_3 (by decide) ?_
  refine zU.eqL (L' := [some (zp 51), some (zi (i : Int)), some (zi (e : Int)), some (zi 0), some (zi 0)]) rfl ?_
  have hJ5 : ∀ (d : Nat) (s : Nat), s + d = aS a i → zU Γ b_R_has n_R 5 (some .boolean) [] (zRm 0 0 0) 0 0 (zFin Γ 0 true (zRi (fun r μ' => μ' = μ ∧ r = zB (aH a i e)))) true 0 μ 5 [some (zp 51), some (zi (i : Int)), some (zi (e : Int)), some (zi (zB ((List.range s).any (fun s => decide (0 ≤ aE a i s e))))), some (zi (s : Int))] [] := by
    intro d
    induction d using Nat.strongRecOn with
    | _ d ih5 =>
      intro s hd
      refine zU_iload d_R_has_5 rfl ?_
      refine zU_aload_n d_R_has_7 rfl ?_
      refine zU_getR 52 d_R_has_8 f_R_7 (by decide) rfl rfl rfl ?_
      refine zU_iload_n d_R_has_11 rfl ?_
      refine zU_iald (v := (aS a i : Int)) d_R_has_12 (by decide) rfl (by decide) (by omega) ((hA i hi).1) ?_
      refine zU_icmp_ge 52 d_R_has_13 (by decide) (by omega) (by omega) (fun h13 => ?_) (fun h13 => ?_)
      · refine zU_iload_n d_R_has_52 rfl ?_
        exact zU_ireturn d_R_has_53 (Or.inr ⟨rfl, zB_or _⟩) (by decide) (by decide) (⟨_, rfl, rfl, by have hs : s = aS a i := (by omega); rw [hs, any6 ha hi he]⟩)
      · refine zU_iload_n d_R_has_16 rfl ?_
        have hJ45 : zU Γ b_R_has n_R 5 (some .boolean) [] (zRm 0 0 0) 0 0 (zFin Γ 0 true (zRi (fun r μ' => μ' = μ ∧ r = zB (aH a i e)))) true 0 μ 45 [some (zp 51), some (zi (i : Int)), some (zi (e : Int)), some (zi (zB ((List.range s).any (fun s => decide (0 ≤ aE a i s e))))), some (zi (s : Int))] [zi (zB ((List.range (s + 1)).any (fun s => decide (0 ≤ aE a i s e))))] := by
          refine zU_istore_n d_R_has_45 (by decide) ?_
          refine zU.eqL (L' := [some (zp 51), some (zi (i : Int)), some (zi (e : Int)), some (zi (zB ((List.range (s + 1)).any (fun s => decide (0 ≤ aE a i s e))))), some (zi (s : Int))]) rfl ?_
          refine zU_iinc d_R_has_46 rfl ?_
          refine zU.eqL (L' := [some (zp 51), some (zi (i : Int)), some (zi (e : Int)), some (zi (zB ((List.range (s + 1)).any (fun s => decide (0 ≤ aE a i s e))))), some (zi (((s + 1 : Nat) : Int)))]) (by first | rfl | exact congrArg (fun zz : Int => [some (zp 51), some (zi (i : Int)), some (zi (e : Int)), some (zi (zB ((List.range (s + 1)).any (fun s => decide (0 ≤ aE a i s e))))), some (zi zz)]) (show ((s : Int) + 1 : Int) = ((s + 1 : Nat) : Int) by omega)) ?_
          refine zU_goto 5 d_R_has_49 (by decide) ?_
          exact ih5 (d - 1) (by omega) (s + 1) (by omega)
        refine zU_if_ne 40 d_R_has_17 (by decide) (zBr _) (fun h17 => ?_) (fun h17 => ?_)
        · have b17 := zB_nz.mp h17
          refine zU_iconst d_R_has_40 ?_
          refine zU_goto 45 d_R_has_41 (by decide) ?_
          refine zU.eqS (st' := [zi (zB ((List.range (s + 1)).any (fun s => decide (0 ≤ aE a i s e))))]) (congrArg (fun zz : Int => [zi zz]) (show (1 : Int) = zB ((List.range (s + 1)).any (fun s => decide (0 ≤ aE a i s e))) from (zBt (by simp [rng_any, b17])).symm)) ?_
          exact hJ45 
        · have b17 := zB_zero.mp h17
          refine zU_aload_n d_R_has_20 rfl ?_
          refine zU_getR 57 d_R_has_21 f_R_26 (by decide) rfl rfl rfl ?_
          refine zU_bipush d_R_has_24 (by decide) ?_
          refine zU_iload_n d_R_has_26 rfl ?_
          refine zU_imul d_R_has_27 ?_
          refine zU_bipush d_R_has_28 (by decide) ?_
          refine zU_iload d_R_has_30 rfl ?_
          refine zU_imul d_R_has_32 ?_
          refine zU_iadd d_R_has_33 ?_
          refine zU_iload_n d_R_has_34 rfl ?_
          refine zU_iadd d_R_has_35 ?_
          refine zU_iald (v := aE a i s e) d_R_has_36 (by decide) rfl (by decide) (by omega) (by rw [show ((72 * (i : Int)) + (12 * (s : Int)) + (e : Int)).toNat = 72 * i + 12 * s + e by omega]; exact ((hA i hi).2.2.2 s (by omega)).2.2 e he) ?_
          have hEr := ((ha.2 i hi).2.2 s e (by omega) he).1
          refine zU_if_lt 44 d_R_has_37 (by decide) (by omega) (fun h37 => ?_) (fun h37 => ?_)
          · refine zU_iconst d_R_has_44 ?_
            refine zU.eqS (st' := [zi (zB ((List.range (s + 1)).any (fun s => decide (0 ≤ aE a i s e))))]) (congrArg (fun zz : Int => [zi zz]) (show (0 : Int) = zB ((List.range (s + 1)).any (fun s => decide (0 ≤ aE a i s e))) from (zBf (by have : ¬ 0 ≤ aE a i s e := (by omega); simp [rng_any, b17, this])).symm)) ?_
            exact hJ45 
          · refine zU_iconst d_R_has_40 ?_
            refine zU_goto 45 d_R_has_41 (by decide) ?_
            refine zU.eqS (st' := [zi (zB ((List.range (s + 1)).any (fun s => decide (0 ≤ aE a i s e))))]) (congrArg (fun zz : Int => [zi zz]) (show (1 : Int) = zB ((List.range (s + 1)).any (fun s => decide (0 ≤ aE a i s e))) from (zBt (by have : 0 ≤ aE a i s e := (by omega); simp [rng_any, this])).symm)) ?_
            exact hJ45 
  exact hJ5 (aS a i) 0 (by omega)
set_option maxRecDepth 100000 in
set_option maxHeartbeats 4000000 in
theorem m_R_takesPart (l : Launch) (μ : zM) {a : aT} (ha : aOk a) (hc : rRep a μ) {i : Nat} {r : Option Nat} (hi : i < aN a) (hr : ∀ x, r = some x → x < 4) :
    zC l y_R_takesPart b_R_takesPart 3 (some .boolean) [] 0 0 0 true [zp 51, zi (i : Int), zi (rI r)] μ (zRi (fun r' μ' => μ' = μ ∧ r' = zB (aMem a r i))) := by
  refine zC.of (own := n_R) (L := [some (zp 51), some (zi (i : Int)), some (zi (rI r))]) (by decide) rfl (by simp [zcat]) (Nat.le_of_ble_eq_true rfl) rfl (fun Γ => ?_)
  obtain ⟨hN, hA, hE⟩ := id hc
  have hN4 := ha.1
  have hrr : -1 ≤ rI r ∧ rI r < 4 := by cases r with | none => decide | some x => have := hr x rfl; simp only [rI]; omega
  have hmm : aMem a r i = (aP a i || decide (rI r < 0) || decide ((i : Int) = rI r)) := by cases r with | none => simp [aMem, rI, hi] | some x => have h0 : ¬ ((x : Int) < 0) := (by omega); have h1 : ((i : Int) = (x : Int)) ↔ i = x := (by omega); simp [aMem, rI, hi, h0, h1]
  refine zU_aload_n d_R_takesPart_0 rfl ?_
  refine zU_getR 53 d_R_takesPart_1 f_R_13 (by decide) rfl rfl rfl ?_
  refine zU_iload_n d_R_takesPart_4 rfl ?_
  refine zU_zald (v := zB (aP a i)) d_R_takesPart_5 (by decide) rfl (by decide) (by omega) ((hA i hi).2.1) ?_
  refine zU_if_ne 18 d_R_takesPart_6 (by decide) (zBr _) (fun h6 => ?_) (fun h6 => ?_)
  · have b6 := zB_nz.mp h6
    refine zU_iconst d_R_takesPart_18 ?_
    refine zU_goto 23 d_R_takesPart_19 (by decide) ?_
    exact zU_ireturn d_R_takesPart_23 (Or.inr ⟨rfl, by omega⟩) (by decide) (by decide) (⟨_, rfl, rfl, (zBt (by rw [hmm]; simp [b6])).symm⟩)
  · have b6 := zB_zero.mp h6
    refine zU_iload_n d_R_takesPart_9 rfl ?_
    refine zU_if_lt 18 d_R_takesPart_10 (by decide) (by omega) (fun h10 => ?_) (fun h10 => ?_)
    · refine zU_iconst d_R_takesPart_18 ?_
      refine zU_goto 23 d_R_takesPart_19 (by decide) ?_
      exact zU_ireturn d_R_takesPart_23 (Or.inr ⟨rfl, by omega⟩) (by decide) (by decide) (⟨_, rfl, rfl, (zBt (by rw [hmm]; simp [h10])).symm⟩)
    · refine zU_iload_n d_R_takesPart_13 rfl ?_
      refine zU_iload_n d_R_takesPart_14 rfl ?_
      refine zU_icmp_ne 22 d_R_takesPart_15 (by decide) (by omega) (by omega) (fun h15 => ?_) (fun h15 => ?_)
      · refine zU_iconst d_R_takesPart_22 ?_
        exact zU_ireturn d_R_takesPart_23 (Or.inr ⟨rfl, by omega⟩) (by decide) (by decide) (⟨_, rfl, rfl, (zBf (by rw [hmm]; simp [b6, h10, h15])).symm⟩)
      · refine zU_iconst d_R_takesPart_18 ?_
        refine zU_goto 23 d_R_takesPart_19 (by decide) ?_
        exact zU_ireturn d_R_takesPart_23 (Or.inr ⟨rfl, by omega⟩) (by decide) (by decide) (⟨_, rfl, rfl, (zBt (by rw [hmm]; simp [h15])).symm⟩)
set_option maxRecDepth 100000 in
set_option maxHeartbeats 4000000 in
theorem m_R_digit (l : Launch) (μ : zM) {c i : Nat} (hc : c < 2147483648) (hi : i < 4) :
    zC l y_R_digit b_R_digit 4 (some .int) [] 0 0 0 true [zi (c : Int), zi (i : Int)] μ (zRi (fun r μ' => μ' = μ ∧ r = ((c / 6 ^ i % 6 : Nat) : Int))) := by
  refine zC.of (own := n_R) (L := [some (zi (c : Int)), some (zi (i : Int)), none, none]) (by decide) rfl (by simp [zcat]) (Nat.le_of_ble_eq_true rfl) rfl (fun Γ => ?_)
  refine zU_iload_n d_R_digit_0 rfl ?_
  refine zU_istore_n d_R_digit_1 (by decide) ?_
  refine zU.eqL (L' := [some (zi (c : Int)), some (zi (i : Int)), some (zi ((c / 6 ^ 0 : Nat) : Int)), none]) (by rw [Nat.pow_zero, Nat.div_one]; rfl) ?_
  refine zU_iconst d_R_digit_2 ?_
  refine zU_istore_n d_R_digit_3 (by decide) ?_
  refine zU.eqL (L' := [some (zi (c : Int)), some (zi (i : Int)), some (zi ((c / 6 ^ 0 : Nat) : Int)), some (zi 0)]) rfl ?_
  have hJ4 : ∀ (d : Nat) (k : Nat), k + d = i → zU Γ b_R_digit n_R 4 (some .int) [] (zRm 0 0 0) 0 0 (zFin Γ 0 true (zRi (fun r μ' => μ' = μ ∧ r = ((c / 6 ^ i % 6 : Nat) : Int)))) true 0 μ 4 [some (zi (c : Int)), some (zi (i : Int)), some (zi ((c / 6 ^ k : Nat) : Int)), some (zi (k : Int))] [] := by
    intro d
    induction d using Nat.strongRecOn with
    | _ d ih4 =>
      intro k hd
      have hck := d6_le c k
      refine zU_iload_n d_R_digit_4 rfl ?_
      refine zU_iload_n d_R_digit_5 rfl ?_
      refine zU_icmp_ge 20 d_R_digit_6 (by decide) (by omega) (by omega) (fun h6 => ?_) (fun h6 => ?_)
      · refine zU_iload_n d_R_digit_20 rfl ?_
        refine zU_bipush d_R_digit_21 (by decide) ?_
        refine zU_irem d_R_digit_23 (by first | exact d6_s hc k | decide) (by first | exact d6_s hc k | decide) ?_
        exact zU_ireturn d_R_digit_24 (Or.inl rfl) (by decide) (by decide) (⟨_, rfl, rfl, by have hk : k = i := (by omega); rw [hk]; rfl⟩)
      · refine zU_iload_n d_R_digit_9 rfl ?_
        refine zU_bipush d_R_digit_10 (by decide) ?_
        refine zU_idiv d_R_digit_12 (by first | exact d6_s hc k | decide) (by first | exact d6_s hc k | decide) ?_
        refine zU_istore_n d_R_digit_13 (by decide) ?_
        refine zU.eqL (L' := [some (zi (c : Int)), some (zi (i : Int)), some (zi (((c / 6 ^ k : Nat) : Int) / 6)), some (zi (k : Int))]) rfl ?_
        refine zU.eqL (L' := [some (zi (c : Int)), some (zi (i : Int)), some (zi ((c / 6 ^ (k + 1) : Nat) : Int)), some (zi (k : Int))]) (congrArg (fun zz : Int => [some (zi (c : Int)), some (zi (i : Int)), some (zi zz), some (zi (k : Int))]) (d6 c k)) ?_
        refine zU_iinc d_R_digit_14 rfl ?_
        refine zU.eqL (L' := [some (zi (c : Int)), some (zi (i : Int)), some (zi ((c / 6 ^ (k + 1) : Nat) : Int)), some (zi (((k + 1 : Nat) : Int)))]) (by first | rfl | exact congrArg (fun zz : Int => [some (zi (c : Int)), some (zi (i : Int)), some (zi ((c / 6 ^ (k + 1) : Nat) : Int)), some (zi zz)]) (show ((k : Int) + 1 : Int) = ((k + 1 : Nat) : Int) by omega)) ?_
        refine zU_goto 4 d_R_digit_17 (by decide) ?_
        exact ih4 (d - 1) (by omega) (k + 1) (by omega)
  exact hJ4 i 0 (by omega)
set_option maxRecDepth 100000 in
set_option maxHeartbeats 4000000 in
theorem m_R_isModel (l : Launch) (μ : zM) {a : aT} (ha : aOk a) (hc : rRep a μ) {r : Option Nat} (hr : ∀ x, r = some x → x < 4) :
    zC l y_R_isModel b_R_isModel 5 (some .boolean) [] 1 0 22 true [zp 51, zi (rI r)] μ (zRi (fun r' μ' => μ' = μ ∧ r' = zB (aReady a (aMem a r)))) := by
  refine zC.of (own := n_R) (L := [some (zp 51), some (zi (rI r)), none, none, none]) (by decide) rfl (by simp [zcat]) (Nat.le_of_ble_eq_true rfl) rfl (fun Γ => ?_)
  obtain ⟨hN, hA, hE⟩ := id hc
  have hN4 := ha.1
  refine zU_iconst d_R_isModel_0 ?_
  refine zU_istore_n d_R_isModel_1 (by decide) ?_
  refine zU.eqL (L' := [some (zp 51), some (zi (rI r)), some (zi 0), none, none]) rfl ?_
  refine zU_iconst d_R_isModel_2 ?_
  refine zU_istore_n d_R_isModel_3 (by decide) ?_
  refine zU.eqL (L' := [some (zp 51), some (zi (rI r)), some (zi 0), some (zi 1), none]) rfl ?_
  refine zU_iconst d_R_isModel_4 ?_
  refine zU_istore d_R_isModel_5 (by decide) ?_
  refine zU.eqL (L' := [some (zp 51), some (zi (rI r)), some (zi 0), some (zi 1), some (zi 0)]) rfl ?_
  have hJ7 : ∀ (d : Nat) (i : Nat), i + d = aN a → zU Γ b_R_isModel n_R 5 (some .boolean) [] (zRm 1 0 22) 0 0 (zFin Γ 0 true (zRi (fun r' μ' => μ' = μ ∧ r' = zB (aReady a (aMem a r))))) true 0 μ 7 [some (zp 51), some (zi (rI r)), some (zi (zB ((List.range i).any (aP a)))), some (zi (zB ((List.range i).all (fun i => !aMem a r i || decide (0 ≤ aI a i))))), some (zi (i : Int))] [] := by
    intro d
    induction d using Nat.strongRecOn with
    | _ d ih7 =>
      intro i hd
      refine zU_iload d_R_isModel_7 rfl ?_
      refine zU_aload_n d_R_isModel_9 rfl ?_
      refine zU_getI (v := (aN a : Int)) d_R_isModel_10 f_R_98 (by decide) rfl rfl (hN) ?_
      refine zU_icmp_ge 72 d_R_isModel_13 (by decide) (by omega) (by omega) (fun h13 => ?_) (fun h13 => ?_)
      · refine zU_iload_n d_R_isModel_72 rfl ?_
        refine zU_if_eq 84 d_R_isModel_73 (by decide) (zBr _) (fun h73 => ?_) (fun h73 => ?_)
        · have b73 := zB_zero.mp h73
          refine zU_iconst d_R_isModel_84 ?_
          exact zU_ireturn d_R_isModel_85 (Or.inr ⟨rfl, by omega⟩) (by decide) (by decide) (⟨_, rfl, rfl, (zBf (by have hi : i = aN a := (by omega); subst hi; unfold aReady; rw [b73, Bool.and_false])).symm⟩)
        · have b73 := zB_nz.mp h73
          refine zU_iload_n d_R_isModel_76 rfl ?_
          refine zU_if_eq 84 d_R_isModel_77 (by decide) (zBr _) (fun h77 => ?_) (fun h77 => ?_)
          · have b77 := zB_zero.mp h77
            refine zU_iconst d_R_isModel_84 ?_
            exact zU_ireturn d_R_isModel_85 (Or.inr ⟨rfl, by omega⟩) (by decide) (by decide) (⟨_, rfl, rfl, (zBf (by have hi : i = aN a := (by omega); subst hi; unfold aReady; rw [b77, Bool.false_and])).symm⟩)
          · have b77 := zB_nz.mp h77
            refine zU_iconst d_R_isModel_80 ?_
            refine zU_goto 85 d_R_isModel_81 (by decide) ?_
            exact zU_ireturn d_R_isModel_85 (Or.inr ⟨rfl, by omega⟩) (by decide) (by decide) (⟨_, rfl, rfl, (zBt (by have hi : i = aN a := (by omega); subst hi; unfold aReady; rw [b77, b73]; rfl)).symm⟩)
      · refine zU_iload_n d_R_isModel_16 rfl ?_
        have hJ35 : zU Γ b_R_isModel n_R 5 (some .boolean) [] (zRm 1 0 22) 0 0 (zFin Γ 0 true (zRi (fun r' μ' => μ' = μ ∧ r' = zB (aReady a (aMem a r))))) true 0 μ 35 [some (zp 51), some (zi (rI r)), some (zi (zB ((List.range i).any (aP a)))), some (zi (zB ((List.range i).all (fun i => !aMem a r i || decide (0 ≤ aI a i))))), some (zi (i : Int))] [zi (zB ((List.range (i + 1)).any (aP a)))] := by
          refine zU_istore_n d_R_isModel_35 (by decide) ?_
          refine zU.eqL (L' := [some (zp 51), some (zi (rI r)), some (zi (zB ((List.range (i + 1)).any (aP a)))), some (zi (zB ((List.range i).all (fun i => !aMem a r i || decide (0 ≤ aI a i))))), some (zi (i : Int))]) rfl ?_
          refine zU_iload_n d_R_isModel_36 rfl ?_
          have hJ65 : zU Γ b_R_isModel n_R 5 (some .boolean) [] (zRm 1 0 22) 0 0 (zFin Γ 0 true (zRi (fun r' μ' => μ' = μ ∧ r' = zB (aReady a (aMem a r))))) true 0 μ 65 [some (zp 51), some (zi (rI r)), some (zi (zB ((List.range (i + 1)).any (aP a)))), some (zi (zB ((List.range i).all (fun i => !aMem a r i || decide (0 ≤ aI a i))))), some (zi (i : Int))] [zi (zB ((List.range (i + 1)).all (fun i => !aMem a r i || decide (0 ≤ aI a i))))] := by
            refine zU_istore_n d_R_isModel_65 (by decide) ?_
            refine zU.eqL (L' := [some (zp 51), some (zi (rI r)), some (zi (zB ((List.range (i + 1)).any (aP a)))), some (zi (zB ((List.range (i + 1)).all (fun i => !aMem a r i || decide (0 ≤ aI a i))))), some (zi (i : Int))]) rfl ?_
            refine zU_iinc d_R_isModel_66 rfl ?_
            refine zU.eqL (L' := [some (zp 51), some (zi (rI r)), some (zi (zB ((List.range (i + 1)).any (aP a)))), some (zi (zB ((List.range (i + 1)).all (fun i => !aMem a r i || decide (0 ≤ aI a i))))), some (zi (((i + 1 : Nat) : Int)))]) (by first | rfl | exact congrArg (fun zz : Int => [some (zp 51), some (zi (rI r)), some (zi (zB ((List.range (i + 1)).any (aP a)))), some (zi (zB ((List.range (i + 1)).all (fun i => !aMem a r i || decide (0 ≤ aI a i))))), some (zi zz)]) (show ((i : Int) + 1 : Int) = ((i + 1 : Nat) : Int) by omega)) ?_
            refine zU_goto 7 d_R_isModel_69 (by decide) ?_
            exact ih7 (d - 1) (by omega) (i + 1) (by omega)
          refine zU_if_eq 64 d_R_isModel_37 (by decide) (zBr _) (fun h37 => ?_) (fun h37 => ?_)
          · have b37 := zB_zero.mp h37
            refine zU_iconst d_R_isModel_64 ?_
            refine zU.eqS (st' := [zi (zB ((List.range (i + 1)).all (fun i => !aMem a r i || decide (0 ≤ aI a i))))]) (congrArg (fun zz : Int => [zi zz]) (show (0 : Int) = zB ((List.range (i + 1)).all (fun i => !aMem a r i || decide (0 ≤ aI a i))) from (zBf (by simp [rng_all, b37])).symm)) ?_
            exact hJ65 
          · have b37 := zB_nz.mp h37
            refine zU_aload_n d_R_isModel_40 rfl ?_
            refine zU_iload d_R_isModel_41 rfl ?_
            refine zU_iload_n d_R_isModel_43 rfl ?_
            refine zU_callVi (p0 := 51) [zi (i : Int), zi (rI r)] d_R_isModel_44 k_R_111 rfl (by decide) rfl rfl (by decide) (Nat.le_of_ble_eq_true rfl) (fun l => m_R_takesPart l μ ha hc (i := i) (by omega) hr) (fun r44 μ44 h44 => ?_)
            obtain ⟨hμ44, rfl⟩ := h44
            replace hμ44 := hμ44.symm
            subst hμ44
            refine zU_if_eq 60 d_R_isModel_47 (by decide) (zBr _) (fun h47 => ?_) (fun h47 => ?_)
            · have b47 := zB_zero.mp h47
              refine zU_iconst d_R_isModel_60 ?_
              refine zU_goto 65 d_R_isModel_61 (by decide) ?_
              refine zU.eqS (st' := [zi (zB ((List.range (i + 1)).all (fun i => !aMem a r i || decide (0 ≤ aI a i))))]) (congrArg (fun zz : Int => [zi zz]) (show (1 : Int) = zB ((List.range (i + 1)).all (fun i => !aMem a r i || decide (0 ≤ aI a i))) from (zBt (by simp [rng_all, b37, b47])).symm)) ?_
              exact hJ65 
            · have b47 := zB_nz.mp h47
              refine zU_aload_n d_R_isModel_50 rfl ?_
              refine zU_getR 54 d_R_isModel_51 f_R_17 (by decide) rfl rfl rfl ?_
              refine zU_iload d_R_isModel_54 rfl ?_
              refine zU_iald (v := aI a i) d_R_isModel_56 (by decide) rfl (by decide) (by omega) ((hA i (by omega)).2.2.1) ?_
              have hI := (ha.2 i (by omega)).2.1
              have hS := (ha.2 i (by omega)).1
              refine zU_if_lt 64 d_R_isModel_57 (by decide) (by omega) (fun h57 => ?_) (fun h57 => ?_)
              · refine zU_iconst d_R_isModel_64 ?_
                refine zU.eqS (st' := [zi (zB ((List.range (i + 1)).all (fun i => !aMem a r i || decide (0 ≤ aI a i))))]) (congrArg (fun zz : Int => [zi zz]) (show (0 : Int) = zB ((List.range (i + 1)).all (fun i => !aMem a r i || decide (0 ≤ aI a i))) from (zBf (by have : ¬ 0 ≤ aI a i := (by omega); simp [rng_all, b47, this])).symm)) ?_
                exact hJ65 
              · refine zU_iconst d_R_isModel_60 ?_
                refine zU_goto 65 d_R_isModel_61 (by decide) ?_
                refine zU.eqS (st' := [zi (zB ((List.range (i + 1)).all (fun i => !aMem a r i || decide (0 ≤ aI a i))))]) (congrArg (fun zz : Int => [zi zz]) (show (1 : Int) = zB ((List.range (i + 1)).all (fun i => !aMem a r i || decide (0 ≤ aI a i))) from (zBt (by have : 0 ≤ aI a i := (by omega); simp [rng_all, b37, this])).symm)) ?_
                exact hJ65 
        refine zU_if_ne 30 d_R_isModel_17 (by decide) (zBr _) (fun h17 => ?_) (fun h17 => ?_)
        · have b17 := zB_nz.mp h17
          refine zU_iconst d_R_isModel_30 ?_
          refine zU_goto 35 d_R_isModel_31 (by decide) ?_
          refine zU.eqS (st' := [zi (zB ((List.range (i + 1)).any (aP a)))]) (congrArg (fun zz : Int => [zi zz]) (show (1 : Int) = zB ((List.range (i + 1)).any (aP a)) from (zBt (by simp [b17, rng_any])).symm)) ?_
          exact hJ35 
        · have b17 := zB_zero.mp h17
          refine zU_aload_n d_R_isModel_20 rfl ?_
          refine zU_getR 53 d_R_isModel_21 f_R_13 (by decide) rfl rfl rfl ?_
          refine zU_iload d_R_isModel_24 rfl ?_
          refine zU_zald (v := zB (aP a i)) d_R_isModel_26 (by decide) rfl (by decide) (by omega) ((hA i (by omega)).2.1) ?_
          refine zU_if_eq 34 d_R_isModel_27 (by decide) (zBr _) (fun h27 => ?_) (fun h27 => ?_)
          · have b27 := zB_zero.mp h27
            refine zU_iconst d_R_isModel_34 ?_
            refine zU.eqS (st' := [zi (zB ((List.range (i + 1)).any (aP a)))]) (congrArg (fun zz : Int => [zi zz]) (show (0 : Int) = zB ((List.range (i + 1)).any (aP a)) from (zBf (by simp [b17, b27, rng_any])).symm)) ?_
            exact hJ35 
          · have b27 := zB_nz.mp h27
            refine zU_iconst d_R_isModel_30 ?_
            refine zU_goto 35 d_R_isModel_31 (by decide) ?_
            refine zU.eqS (st' := [zi (zB ((List.range (i + 1)).any (aP a)))]) (congrArg (fun zz : Int => [zi zz]) (show (1 : Int) = zB ((List.range (i + 1)).any (aP a)) from (zBt (by simp [b17, b27, rng_any])).symm)) ?_
            exact hJ35 
  exact hJ7 (aN a) 0 (by omega)
