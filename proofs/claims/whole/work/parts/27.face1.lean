set_option maxRecDepth 100000 in
set_option maxHeartbeats 4000000 in
theorem m_C_requireEvent (l : Launch) (μ : zM) {x : Int} (hx : -2147483648 ≤ x ∧ x ≤ 2147483647) :
    zC l y_C_requireEvent b_C_requireEvent 1 none [] 6 1 81 true [zi x] μ (zRvt (fun μ' => μ' = μ ∧ 0 ≤ x ∧ x < 12) (fun k μ' => μ' = μ ∧ k = 0 ∧ ¬ (0 ≤ x ∧ x < 12))) := by
  refine zC.of (own := n_C) (L := [some (zi x)]) (by decide) rfl (by simp [zcat]) (Nat.le_of_ble_eq_true rfl) rfl (fun Γ => ?_)
  refine zU_iload_n d_C_requireEvent_0 rfl ?_
  refine zU_if_lt 10 d_C_requireEvent_1 (by decide) (by omega) (fun h1 => ?_) (fun h1 => ?_)
  · exact zU_throw 0 d_C_requireEvent_10 d_C_requireEvent_13 d_C_requireEvent_14 d_C_requireEvent_17 w_C_50 (by decide) (Or.inr ⟨0, rfl, rfl, rfl, by omega⟩)
  · refine zU_iload_n d_C_requireEvent_4 rfl ?_
    refine zU_bipush d_C_requireEvent_5 (by decide) ?_
    refine zU_icmp_lt 18 d_C_requireEvent_7 (by decide) (by omega) (by omega) (fun h7 => ?_) (fun h7 => ?_)
    · exact zU_return d_C_requireEvent_18 rfl (by decide) (by decide) (Or.inl ⟨rfl, rfl, by omega, by omega⟩)
    · exact zU_throw 0 d_C_requireEvent_10 d_C_requireEvent_13 d_C_requireEvent_14 d_C_requireEvent_17 w_C_50 (by decide) (Or.inr ⟨0, rfl, rfl, rfl, by omega⟩)
set_option maxRecDepth 100000 in
set_option maxHeartbeats 4000000 in
theorem m_C_requireResult (l : Launch) (μ : zM) (h6 : μ 0 6 = 0 ∨ μ 0 6 = 1) :
    zC l y_C_requireResult b_C_requireResult 1 none [] 6 1 81 true [zp 0] μ (zRvt (fun μ' => μ' = μ ∧ μ 0 6 = 1) (fun k μ' => μ' = μ ∧ k = 1 ∧ μ 0 6 = 0)) := by
  refine zC.of (own := n_C) (L := [some (zp 0)]) (by decide) rfl (by simp [zcat]) (Nat.le_of_ble_eq_true rfl) rfl (fun Γ => ?_)
  refine zU_aload_n d_C_requireResult_0 rfl ?_
  refine zU_getI (v := μ 0 6) d_C_requireResult_1 f_C_60 (by decide) rfl rfl (rfl) ?_
  refine zU_if_ne 15 d_C_requireResult_4 (by decide) (by omega) (fun h4 => ?_) (fun h4 => ?_)
  · exact zU_return d_C_requireResult_15 rfl (by decide) (by decide) (Or.inl ⟨rfl, rfl, by omega⟩)
  · exact zU_throw 1 d_C_requireResult_7 d_C_requireResult_10 d_C_requireResult_11 d_C_requireResult_14 w_C_57 (by decide) (Or.inr ⟨1, rfl, rfl, rfl, by omega⟩)
set_option maxRecDepth 100000 in
set_option maxHeartbeats 4000000 in
theorem m_C_requireSupervisor (l : Launch) (μ : zM) (h6 : μ 0 6 = 0 ∨ μ 0 6 = 1) (hk : -2147483648 ≤ μ 33 0 ∧ μ 33 0 ≤ 2147483647) :
    zC l y_C_requireSupervisor b_C_requireSupervisor 1 none [] 6 1 81 true [zp 0] μ (zRvt (fun μ' => μ' = μ ∧ μ 0 6 = 1 ∧ ¬ μ 33 0 = 0) (fun k μ' => μ' = μ ∧ k = 1 ∧ ¬ (μ 0 6 = 1 ∧ ¬ μ 33 0 = 0))) := by
  refine zC.of (own := n_C) (L := [some (zp 0)]) (by decide) rfl (by simp [zcat]) (Nat.le_of_ble_eq_true rfl) rfl (fun Γ => ?_)
  refine zU_aload_n d_C_requireSupervisor_0 rfl ?_
  refine zU_getI (v := μ 0 6) d_C_requireSupervisor_1 f_C_60 (by decide) rfl rfl (rfl) ?_
  refine zU_if_eq 17 d_C_requireSupervisor_4 (by decide) (by omega) (fun h4 => ?_) (fun h4 => ?_)
  · exact zU_throw 1 d_C_requireSupervisor_17 d_C_requireSupervisor_20 d_C_requireSupervisor_21 d_C_requireSupervisor_24 w_C_57 (by decide) (Or.inr ⟨1, rfl, rfl, rfl, by omega⟩)
  · refine zU_aload_n d_C_requireSupervisor_7 rfl ?_
    refine zU_getR 33 d_C_requireSupervisor_8 f_C_40 (by decide) rfl rfl rfl ?_
    refine zU_getI (v := μ 33 0) d_C_requireSupervisor_11 f_C_121 (by decide) rfl rfl (rfl) ?_
    refine zU_if_ne 25 d_C_requireSupervisor_14 (by decide) (by omega) (fun h14 => ?_) (fun h14 => ?_)
    · exact zU_return d_C_requireSupervisor_25 rfl (by decide) (by decide) (Or.inl ⟨rfl, rfl, by omega, by omega⟩)
    · exact zU_throw 1 d_C_requireSupervisor_17 d_C_requireSupervisor_20 d_C_requireSupervisor_21 d_C_requireSupervisor_24 w_C_57 (by decide) (Or.inr ⟨1, rfl, rfl, rfl, by omega⟩)
set_option maxRecDepth 100000 in
set_option maxHeartbeats 4000000 in
theorem m_C_requireState (l : Launch) (μ : zM) {x : Int} (hx : -2147483648 ≤ x ∧ x ≤ 2147483647) (hk : -2147483648 ≤ μ 33 0 ∧ μ 33 0 ≤ 2147483647) :
    zC l y_C_requireState b_C_requireState 2 none [] 6 1 81 true [zp 0, zi x] μ (zRvt (fun μ' => μ' = μ ∧ 1 ≤ x ∧ x ≤ μ 33 0) (fun k μ' => μ' = μ ∧ k = 0 ∧ ¬ (1 ≤ x ∧ x ≤ μ 33 0))) := by
  refine zC.of (own := n_C) (L := [some (zp 0), some (zi x)]) (by decide) rfl (by simp [zcat]) (Nat.le_of_ble_eq_true rfl) rfl (fun Γ => ?_)
  refine zU_iload_n d_C_requireState_0 rfl ?_
  refine zU_iconst d_C_requireState_1 ?_
  refine zU_icmp_lt 16 d_C_requireState_2 (by decide) (by omega) (by omega) (fun h2 => ?_) (fun h2 => ?_)
  · exact zU_throw 0 d_C_requireState_16 d_C_requireState_19 d_C_requireState_20 d_C_requireState_23 w_C_50 (by decide) (Or.inr ⟨0, rfl, rfl, rfl, by omega⟩)
  · refine zU_iload_n d_C_requireState_5 rfl ?_
    refine zU_aload_n d_C_requireState_6 rfl ?_
    refine zU_getR 33 d_C_requireState_7 f_C_40 (by decide) rfl rfl rfl ?_
    refine zU_getI (v := μ 33 0) d_C_requireState_10 f_C_121 (by decide) rfl rfl (rfl) ?_
    refine zU_icmp_le 24 d_C_requireState_13 (by decide) (by omega) (by omega) (fun h13 => ?_) (fun h13 => ?_)
    · exact zU_return d_C_requireState_24 rfl (by decide) (by decide) (Or.inl ⟨rfl, rfl, by omega, by omega⟩)
    · exact zU_throw 0 d_C_requireState_16 d_C_requireState_19 d_C_requireState_20 d_C_requireState_23 w_C_50 (by decide) (Or.inr ⟨0, rfl, rfl, rfl, by omega⟩)
set_option maxRecDepth 100000 in
set_option maxHeartbeats 4000000 in
theorem m_C_requireStateAndEvent (l : Launch) (μ : zM) {x y : Int} (h6 : μ 0 6 = 0 ∨ μ 0 6 = 1) (hx : -2147483648 ≤ x ∧ x ≤ 2147483647) (hy : -2147483648 ≤ y ∧ y ≤ 2147483647) (hk : -2147483648 ≤ μ 33 0 ∧ μ 33 0 ≤ 2147483647) :
    zC l y_C_requireStateAndEvent b_C_requireStateAndEvent 3 none [] 7 3 102 true [zp 0, zi x, zi y] μ (zRvt (fun μ' => μ' = μ ∧ (μ 0 6 = 1 ∧ ¬ μ 33 0 = 0) ∧ (1 ≤ x ∧ x ≤ μ 33 0) ∧ 0 ≤ y ∧ y < 12) (fun k μ' => μ' = μ ∧ ((k = 1 ∧ ¬ (μ 0 6 = 1 ∧ ¬ μ 33 0 = 0)) ∨ (k = 0 ∧ (μ 0 6 = 1 ∧ ¬ μ 33 0 = 0) ∧ ¬ ((1 ≤ x ∧ x ≤ μ 33 0) ∧ 0 ≤ y ∧ y < 12))))) := by
  refine zC.of (own := n_C) (L := [some (zp 0), some (zi x), some (zi y)]) (by decide) rfl (by simp [zcat]) (Nat.le_of_ble_eq_true rfl) rfl (fun Γ => ?_)
  refine zU_aload_n d_C_requireStateAndEvent_0 rfl ?_
  refine zU_callVvt (p0 := 0) [] d_C_requireStateAndEvent_1 k_C_132 rfl (by decide) rfl rfl (by decide) (Nat.le_of_ble_eq_true rfl) (fun l => m_C_requireSupervisor l μ h6 hk) (fun μ1 h1 => ?_) (fun k μt ht => zthru (by decide) (by decide) (Or.inr ⟨k, rfl, ht.1, Or.inl ⟨ht.2.1, ht.2.2⟩⟩))
  obtain ⟨hμ1, hs1⟩ := h1
  replace hμ1 := hμ1.symm
  subst hμ1
  refine zU_aload_n d_C_requireStateAndEvent_4 rfl ?_
  refine zU_iload_n d_C_requireStateAndEvent_5 rfl ?_
  refine zU_callVvt (p0 := 0) [zi x] d_C_requireStateAndEvent_6 k_C_135 rfl (by decide) rfl rfl (by decide) (Nat.le_of_ble_eq_true rfl) (fun l => m_C_requireState l μ hx hk) (fun μ6 h6' => ?_) (fun k μt ht => zthru (by decide) (by decide) (Or.inr ⟨k, rfl, ht.1, Or.inr ⟨ht.2.1, hs1, fun h => ht.2.2 h.1⟩⟩))
  obtain ⟨hμ6, hs6⟩ := h6'
  replace hμ6 := hμ6.symm
  subst hμ6
  refine zU_iload_n d_C_requireStateAndEvent_9 rfl ?_
  refine zU_callSvt [zi y] d_C_requireStateAndEvent_10 k_C_68 rfl (by decide) (Nat.le_of_ble_eq_true rfl) (fun l => m_C_requireEvent l μ hy) (fun μ10 h10 => ?_) (fun k μt ht => zthru (by decide) (by decide) (Or.inr ⟨k, rfl, ht.1, Or.inr ⟨ht.2.1, hs1, fun h => ht.2.2 h.2⟩⟩))
  obtain ⟨hμ10, hs10⟩ := h10
  replace hμ10 := hμ10.symm
  subst hμ10
  exact zU_return d_C_requireStateAndEvent_13 rfl (by decide) (by decide) (Or.inl ⟨rfl, rfl, hs1, hs6, hs10⟩)
set_option maxRecDepth 100000 in
set_option maxHeartbeats 4000000 in
theorem m_C_automaton (l : Launch) (μ : zM) {a : aT} (ha : aOk a) (hc : cRep a μ) {x y : Int} (hx : -2147483648 ≤ x ∧ x ≤ 2147483647) (hy : -2147483648 ≤ y ∧ y ≤ 2147483647) :
    zC l y_C_automaton b_C_automaton 3 (some .int) [] 6 1 81 false [zp 0, zi x, zi y] μ (zRit (fun r μ' => ∃ (n : Nat) (p : Bool), x = n ∧ y = zB (!p) ∧ (1 ≤ n ∧ n ≤ 6) ∧ aN a < 4 ∧ r = aN a ∧ cRep (aAdd a n p) μ' ∧ μ' 0 6 = 0 ∧ ∀ q, q ≠ 0 → q ≠ 1 → q ≠ 3 + 3 * aN a → q ≠ 4 + 3 * aN a → μ' q = μ q) (fun k μ' => μ' = μ ∧ ((k = 0 ∧ ¬ (1 ≤ x ∧ x ≤ 6 ∧ 0 ≤ y ∧ y ≤ 1)) ∨ (k = 1 ∧ (1 ≤ x ∧ x ≤ 6 ∧ 0 ≤ y ∧ y ≤ 1) ∧ aN a = 4)))) := by
  refine zC.of (own := n_C) (L := [some (zp 0), some (zi x), some (zi y)]) (by decide) rfl (by simp [zcat]) (Nat.le_of_ble_eq_true rfl) rfl (fun Γ => ?_)
  obtain ⟨hN, hD, hCt, hA⟩ := id hc
  have hN4 := ha.1
  refine zU_iload_n d_C_automaton_0 rfl ?_
  refine zU_iconst d_C_automaton_1 ?_
  refine zU_icmp_lt 20 d_C_automaton_2 (by decide) (by omega) (by omega) (fun h2 => ?_) (fun h2 => ?_)
  · exact zU_throw 0 d_C_automaton_20 d_C_automaton_23 d_C_automaton_24 d_C_automaton_27 w_C_50 (by decide) (Or.inr ⟨0, rfl, rfl, Or.inl ⟨rfl, by omega⟩⟩)
  · refine zU_iload_n d_C_automaton_5 rfl ?_
    refine zU_bipush d_C_automaton_6 (by decide) ?_
    refine zU_icmp_gt 20 d_C_automaton_8 (by decide) (by omega) (by omega) (fun h8 => ?_) (fun h8 => ?_)
    · exact zU_throw 0 d_C_automaton_20 d_C_automaton_23 d_C_automaton_24 d_C_automaton_27 w_C_50 (by decide) (Or.inr ⟨0, rfl, rfl, Or.inl ⟨rfl, by omega⟩⟩)
    · refine zU_iload_n d_C_automaton_11 rfl ?_
      refine zU_if_eq 28 d_C_automaton_12 (by decide) (by omega) (fun h12 => ?_) (fun h12 => ?_)
      · refine zU_aload_n d_C_automaton_28 rfl ?_
        refine zU_getR 1 d_C_automaton_29 f_C_12 (by decide) rfl rfl rfl ?_
        refine zU_getI (v := (aN a : Int)) d_C_automaton_32 f_C_53 (by decide) rfl rfl (hN) ?_
        refine zU_iconst d_C_automaton_35 ?_
        refine zU_icmp_ne 47 d_C_automaton_36 (by decide) (by omega) (by omega) (fun h36 => ?_) (fun h36 => ?_)
        · refine zU_aload_n d_C_automaton_47 rfl ?_
          refine zU_iconst d_C_automaton_48 ?_
          refine zU_putI d_C_automaton_49 f_C_60 p_C_resultStands (by decide) rfl rfl (Or.inr ⟨rfl, by omega⟩) ?_
          obtain ⟨n, rfl⟩ : ∃ n : Nat, x = (n : Int) := ⟨x.toNat, by omega⟩
          obtain ⟨p, rfl⟩ : ∃ p : Bool, y = zB (!p) := ⟨decide (y = 0), by rcases (show y = 0 ∨ y = 1 by omega) with h | h <;> rw [h] <;> rfl⟩
          have hc' : cRep a (zup μ 0 6 0) := cRep_congr hc (fun q hq => zup_ne _ _ _ (by omega)) ha
          refine zU_aload_n d_C_automaton_52 rfl ?_
          refine zU_getR 1 d_C_automaton_53 f_C_12 (by decide) rfl rfl rfl ?_
          refine zU_iload_n d_C_automaton_56 rfl ?_
          refine zU_iload_n d_C_automaton_57 rfl ?_
          refine zU_callVi (p0 := 1) [zi (n : Int), zi (zB (!p))] d_C_automaton_58 k_C_64 rfl (by decide) rfl rfl (by decide) (Nat.le_of_ble_eq_true rfl) (fun l => m_A_add l (zup μ 0 6 0) ha hc' (n := n) (p := p) (by omega) (by omega)) (fun r58 μ58 h58 => ?_)
          exact zU_ireturn d_C_automaton_61 (Or.inl rfl) (by decide) (by decide) (Or.inl ⟨_, rfl, n, p, rfl, rfl, by omega, by omega, h58.1, h58.2.1, by rw [h58.2.2 0 (by omega) (by omega) (by omega)]; simp [zup_at], fun q q0 q1 q2 q3 => by rw [h58.2.2 q q1 q2 q3, zup_ne _ _ _ q0]⟩)
        · exact zU_throw 1 d_C_automaton_39 d_C_automaton_42 d_C_automaton_43 d_C_automaton_46 w_C_57 (by decide) (Or.inr ⟨1, rfl, rfl, Or.inr ⟨rfl, by omega, by omega⟩⟩)
      · refine zU_iload_n d_C_automaton_15 rfl ?_
        refine zU_iconst d_C_automaton_16 ?_
        refine zU_icmp_eq 28 d_C_automaton_17 (by decide) (by omega) (by omega) (fun h17 => ?_) (fun h17 => ?_)
        · refine zU_aload_n d_C_automaton_28 rfl ?_
          refine zU_getR 1 d_C_automaton_29 f_C_12 (by decide) rfl rfl rfl ?_
          refine zU_getI (v := (aN a : Int)) d_C_automaton_32 f_C_53 (by decide) rfl rfl (hN) ?_
          refine zU_iconst d_C_automaton_35 ?_
          refine zU_icmp_ne 47 d_C_automaton_36 (by decide) (by omega) (by omega) (fun h36 => ?_) (fun h36 => ?_)
          · refine zU_aload_n d_C_automaton_47 rfl ?_
            refine zU_iconst d_C_automaton_48 ?_
            refine zU_putI d_C_automaton_49 f_C_60 p_C_resultStands (by decide) rfl rfl (Or.inr ⟨rfl, by omega⟩) ?_
            obtain ⟨n, rfl⟩ : ∃ n : Nat, x = (n : Int) := ⟨x.toNat, by omega⟩
            obtain ⟨p, rfl⟩ : ∃ p : Bool, y = zB (!p) := ⟨decide (y = 0), by rcases (show y = 0 ∨ y = 1 by omega) with h | h <;> rw [h] <;> rfl⟩
            have hc' : cRep a (zup μ 0 6 0) := cRep_congr hc (fun q hq => zup_ne _ _ _ (by omega)) ha
            refine zU_aload_n d_C_automaton_52 rfl ?_
            refine zU_getR 1 d_C_automaton_53 f_C_12 (by decide) rfl rfl rfl ?_
            refine zU_iload_n d_C_automaton_56 rfl ?_
            refine zU_iload_n d_C_automaton_57 rfl ?_
            refine zU_callVi (p0 := 1) [zi (n : Int), zi (zB (!p))] d_C_automaton_58 k_C_64 rfl (by decide) rfl rfl (by decide) (Nat.le_of_ble_eq_true rfl) (fun l => m_A_add l (zup μ 0 6 0) ha hc' (n := n) (p := p) (by omega) (by omega)) (fun r58 μ58 h58 => ?_)
            exact zU_ireturn d_C_automaton_61 (Or.inl rfl) (by decide) (by decide) (Or.inl ⟨_, rfl, n, p, rfl, rfl, by omega, by omega, h58.1, h58.2.1, by rw [h58.2.2 0 (by omega) (by omega) (by omega)]; simp [zup_at], fun q q0 q1 q2 q3 => by rw [h58.2.2 q q1 q2 q3, zup_ne _ _ _ q0]⟩)
          · exact zU_throw 1 d_C_automaton_39 d_C_automaton_42 d_C_automaton_43 d_C_automaton_46 w_C_57 (by decide) (Or.inr ⟨1, rfl, rfl, Or.inr ⟨rfl, by omega, by omega⟩⟩)
        · exact zU_throw 0 d_C_automaton_20 d_C_automaton_23 d_C_automaton_24 d_C_automaton_27 w_C_50 (by decide) (Or.inr ⟨0, rfl, rfl, Or.inl ⟨rfl, by omega⟩⟩)
set_option maxRecDepth 100000 in
set_option maxHeartbeats 4000000 in
theorem m_C_event (l : Launch) (μ : zM) {a : aT} (ha : aOk a) (hc : cRep a μ) {x : Int} {on : Bool} (hx : -2147483648 ≤ x ∧ x ≤ 2147483647) :
    zC l y_C_event b_C_event 3 (some .boolean) [] 7 2 101 false [zp 0, zi x, zi (zB on)] μ (zRit (fun r μ' => ∃ e : Nat, x = e ∧ e < 12 ∧ ((aD a e = true ∧ aC a e = on ∧ r = 0 ∧ μ' = μ) ∨ (aD a e = false ∧ r = 1 ∧ cRep (aDecl a e on) μ' ∧ μ' 0 6 = 0 ∧ ∀ q, q ≠ 0 → q ≠ 1 → μ' q = μ q))) (fun k μ' => μ' = μ ∧ ((k = 0 ∧ ¬ (0 ≤ x ∧ x < 12)) ∨ (k = 1 ∧ ∃ e : Nat, x = e ∧ e < 12 ∧ aD a e = true ∧ ¬ aC a e = on)))) := by
  refine zC.of (own := n_C) (L := [some (zp 0), some (zi x), some (zi (zB on))]) (by decide) rfl (by simp [zcat]) (Nat.le_of_ble_eq_true rfl) rfl (fun Γ => ?_)
  obtain ⟨hN, hD, hCt, hA⟩ := id hc
  have hN4 := ha.1
  refine zU_iload_n d_C_event_0 rfl ?_
  refine zU_callSvt [zi x] d_C_event_1 k_C_68 rfl (by decide) (Nat.le_of_ble_eq_true rfl) (fun l => m_C_requireEvent l μ hx) (fun μ1 h1 => ?_) (fun k μt ht => zthru (by decide) (by decide) (Or.inr ⟨k, rfl, ht.1, Or.inl ⟨ht.2.1, ht.2.2⟩⟩))
  obtain ⟨hμ1, hs1⟩ := h1
  replace hμ1 := hμ1.symm
  subst hμ1
  obtain ⟨e, hxe⟩ : ∃ e : Nat, x = (e : Int) := ⟨x.toNat, by omega⟩
  subst hxe
  have he : e < 12 := by omega
  refine zU_aload_n d_C_event_4 rfl ?_
  refine zU_getR 1 d_C_event_5 f_C_12 (by decide) rfl rfl rfl ?_
  refine zU_iload_n d_C_event_8 rfl ?_
  refine zU_callVi (p0 := 1) [zi (e : Int)] d_C_event_9 k_C_72 rfl (by decide) rfl rfl (by decide) (Nat.le_of_ble_eq_true rfl) (fun l => m_A_isDeclared l μ (e := e) (by omega) hD.1) (fun r9 μ9 h9 => ?_)
  obtain ⟨hμ9, hr9⟩ := h9
  rw [hD.2 e he] at hr9
  subst hr9
  replace hμ9 := hμ9.symm
  subst hμ9
  refine zU_if_eq 37 d_C_event_12 (by decide) (zBr _) (fun h12 => ?_) (fun h12 => ?_)
  · refine zU_aload_n d_C_event_37 rfl ?_
    refine zU_iconst d_C_event_38 ?_
    refine zU_putI d_C_event_39 f_C_60 p_C_resultStands (by decide) rfl rfl (Or.inr ⟨rfl, by omega⟩) ?_
    refine zU_aload_n d_C_event_42 rfl ?_
    refine zU_getR 1 d_C_event_43 f_C_12 (by decide) rfl rfl rfl ?_
    refine zU_iload_n d_C_event_46 rfl ?_
    refine zU_iload_n d_C_event_47 rfl ?_
    refine zU_callVv (p0 := 1) [zi (e : Int), zi (zB on)] d_C_event_48 k_C_79 rfl (by decide) rfl rfl (by decide) (Nat.le_of_ble_eq_true rfl) (fun l => m_A_declare l (zup μ 0 6 0) ha (cRep_congr hc (fun q hq => zup_ne _ _ _ (by omega)) ha) (e := e) (on := on) he (zB_zero.mp h12)) (fun μ48 h48 => ?_)
    refine zU_iconst d_C_event_51 ?_
    exact zU_ireturn d_C_event_52 (Or.inr ⟨rfl, by omega⟩) (by decide) (by decide) (Or.inl ⟨_, rfl, e, rfl, he, Or.inr ⟨zB_zero.mp h12, rfl, h48.1, by rw [h48.2 0 (by omega)]; simp [zup_at], fun q q0 q1 => by rw [h48.2 q q1, zup_ne _ _ _ q0]⟩⟩)
  · refine zU_aload_n d_C_event_15 rfl ?_
    refine zU_getR 1 d_C_event_16 f_C_12 (by decide) rfl rfl rfl ?_
    refine zU_iload_n d_C_event_19 rfl ?_
    refine zU_callVi (p0 := 1) [zi (e : Int)] d_C_event_20 k_C_76 rfl (by decide) rfl rfl (by decide) (Nat.le_of_ble_eq_true rfl) (fun l => m_A_isControllable l μ (e := e) (by omega) hCt.1) (fun r20 μ20 h20 => ?_)
    obtain ⟨hμ20, hr20⟩ := h20
    rw [show zbt (μ 1 3) e = (aD a e && aC a e) from hCt.2 e he] at hr20
    have hde := zB_nz.mp h12
    subst hr20
    replace hμ20 := hμ20.symm
    subst hμ20
    refine zU_iload_n d_C_event_23 rfl ?_
    refine zU_icmp_eq 35 d_C_event_24 (by decide) (zBr _) (zBr _) (fun h24 => ?_) (fun h24 => ?_)
    · refine zU_iconst d_C_event_35 ?_
      exact zU_ireturn d_C_event_36 (Or.inr ⟨rfl, by omega⟩) (by decide) (by decide) (Or.inl ⟨_, rfl, e, rfl, he, Or.inl ⟨hde, by rw [hde] at h24; revert h24; cases aC a e <;> cases on <;> simp [zB], rfl, rfl⟩⟩)
    · exact zU_throw 1 d_C_event_27 d_C_event_30 d_C_event_31 d_C_event_34 w_C_57 (by decide) (Or.inr ⟨1, rfl, rfl, Or.inr ⟨rfl, e, rfl, he, hde, fun h => h24 (by rw [hde, h]; rfl)⟩⟩)
set_option maxRecDepth 100000 in
set_option maxHeartbeats 4000000 in
theorem m_C_edge (l : Launch) (μ : zM) {a : aT} (ha : aOk a) (hc : cRep a μ) {x s e t : Int} (hx : -2147483648 ≤ x ∧ x ≤ 2147483647) (hs : -2147483648 ≤ s ∧ s ≤ 2147483647) (he : -2147483648 ≤ e ∧ e ≤ 2147483647) (ht' : -2147483648 ≤ t ∧ t ≤ 2147483647) :
    zC l y_C_edge b_C_edge 5 none [] 7 2 101 false [zp 0, zi x, zi s, zi e, zi t] μ (zRvt (fun μ' => ∃ i s' e' t' : Nat, x = i ∧ s = s' ∧ e = e' ∧ t = t' ∧ i < aN a ∧ s' < aS a i ∧ t' < aS a i ∧ e' < 12 ∧ aD a e' = true ∧ ¬ 0 ≤ aE a i s' e' ∧ cRep (aEdge a i s' e' t') μ' ∧ μ' 0 6 = 0 ∧ ∀ q, q ≠ 0 → q ≠ 3 + 3 * i → q ≠ 4 + 3 * i → q ≠ 5 + 3 * i → μ' q = μ q) (fun k μ' => μ' = μ ∧ ((k = 0 ∧ ¬ ((0 ≤ x ∧ x < aN a ∧ 0 ≤ s ∧ s < aS a x.toNat) ∧ (0 ≤ x ∧ x < aN a ∧ 0 ≤ t ∧ t < aS a x.toNat) ∧ 0 ≤ e ∧ e < 12)) ∨ (k = 1 ∧ ((0 ≤ x ∧ x < aN a ∧ 0 ≤ s ∧ s < aS a x.toNat) ∧ (0 ≤ x ∧ x < aN a ∧ 0 ≤ t ∧ t < aS a x.toNat) ∧ 0 ≤ e ∧ e < 12) ∧ (aD a e.toNat = false ∨ 0 ≤ aE a x.toNat s.toNat e.toNat))))) := by
  refine zC.of (own := n_C) (L := [some (zp 0), some (zi x), some (zi s), some (zi e), some (zi t)]) (by decide) rfl (by simp [zcat]) (Nat.le_of_ble_eq_true rfl) rfl (fun Γ => ?_)
  obtain ⟨hN, hD, hCt, hA⟩ := id hc
  have hN4 := ha.1
  refine zU_aload_n d_C_edge_0 rfl ?_
  refine zU_getR 1 d_C_edge_1 f_C_12 (by decide) rfl rfl rfl ?_
  refine zU_iload_n d_C_edge_4 rfl ?_
  refine zU_iload_n d_C_edge_5 rfl ?_
  refine zU_callVi (p0 := 1) [zi x, zi s] d_C_edge_6 k_C_83 rfl (by decide) rfl rfl (by decide) (Nat.le_of_ble_eq_true rfl) (fun l => m_A_hasState l μ ha hc hx hs) (fun r6 μ6 h6 => ?_)
  obtain ⟨hμ6, rfl⟩ := h6
  replace hμ6 := hμ6.symm
  subst hμ6
  refine zU_if_eq 25 d_C_edge_9 (by decide) (zBr _) (fun h9 => ?_) (fun h9 => ?_)
  · exact zU_throw 0 d_C_edge_25 d_C_edge_28 d_C_edge_29 d_C_edge_32 w_C_50 (by decide) (Or.inr ⟨0, rfl, rfl, Or.inl ⟨rfl, fun h => of_decide_eq_false (zB_zero.mp h9) h.1⟩⟩)
  · refine zU_aload_n d_C_edge_12 rfl ?_
    refine zU_getR 1 d_C_edge_13 f_C_12 (by decide) rfl rfl rfl ?_
    refine zU_iload_n d_C_edge_16 rfl ?_
    refine zU_iload d_C_edge_17 rfl ?_
    refine zU_callVi (p0 := 1) [zi x, zi t] d_C_edge_19 k_C_83 rfl (by decide) rfl rfl (by decide) (Nat.le_of_ble_eq_true rfl) (fun l => m_A_hasState l μ ha hc hx ht') (fun r19 μ19 h19 => ?_)
    obtain ⟨hμ19, rfl⟩ := h19
    replace hμ19 := hμ19.symm
    subst hμ19
    refine zU_if_ne 33 d_C_edge_22 (by decide) (zBr _) (fun h22 => ?_) (fun h22 => ?_)
    · refine zU_iload_n d_C_edge_33 rfl ?_
      refine zU_callSvt [zi e] d_C_edge_34 k_C_68 rfl (by decide) (Nat.le_of_ble_eq_true rfl) (fun l => m_C_requireEvent l μ he) (fun μ34 h34 => ?_) (fun k μt ht => zthru (by decide) (by decide) (Or.inr ⟨k, rfl, ht.1, Or.inl ⟨ht.2.1, fun h => ht.2.2 h.2.2⟩⟩))
      obtain ⟨hμ34, hs34⟩ := h34
      replace hμ34 := hμ34.symm
      subst hμ34
      have g1 := of_decide_eq_true (zB_nz.mp h9)
      have g2 := of_decide_eq_true (zB_nz.mp h22)
      obtain ⟨i, hxi⟩ : ∃ i : Nat, x = (i : Int) := ⟨x.toNat, by omega⟩
      obtain ⟨s', hss⟩ : ∃ i : Nat, s = (i : Int) := ⟨s.toNat, by omega⟩
      obtain ⟨e', hee⟩ : ∃ i : Nat, e = (i : Int) := ⟨e.toNat, by omega⟩
      obtain ⟨t', htt⟩ : ∃ i : Nat, t = (i : Int) := ⟨t.toNat, by omega⟩
      subst hxi hss hee htt
      simp only [Int.toNat_natCast] at g1 g2
      have hi : i < aN a := by omega
      have h_i : i < 4 := by omega
      have hS := (ha.2 i hi).1
      have hs6 : s' < 6 := by omega
      have he12 : e' < 12 := by omega
      refine zU_aload_n d_C_edge_37 rfl ?_
      refine zU_getR 1 d_C_edge_38 f_C_12 (by decide) rfl rfl rfl ?_
      refine zU_iload_n d_C_edge_41 rfl ?_
      refine zU_callVi (p0 := 1) [zi (e' : Int)] d_C_edge_42 k_C_72 rfl (by decide) rfl rfl (by decide) (Nat.le_of_ble_eq_true rfl) (fun l => m_A_isDeclared l μ (e := e') (by omega) hD.1) (fun r42 μ42 h42 => ?_)
      obtain ⟨hμ42, hr42⟩ := h42
      rw [hD.2 e' he12] at hr42
      subst hr42
      replace hμ42 := hμ42.symm
      subst hμ42
      refine zU_if_eq 65 d_C_edge_45 (by decide) (zBr _) (fun h45 => ?_) (fun h45 => ?_)
      · exact zU_throw 1 d_C_edge_65 d_C_edge_68 d_C_edge_69 d_C_edge_72 w_C_57 (by decide) (Or.inr ⟨1, rfl, rfl, Or.inr ⟨rfl, ⟨g1, g2, by omega, by omega⟩, Or.inl (zB_zero.mp h45)⟩⟩)
      · refine zU_aload_n d_C_edge_48 rfl ?_
        refine zU_getR 1 d_C_edge_49 f_C_12 (by decide) rfl rfl rfl ?_
        refine zU_getR 2 d_C_edge_52 f_C_87 (by decide) rfl rfl rfl ?_
        refine zU_iload_n d_C_edge_55 rfl ?_
        refine zU_aald (3 + 3 * i) d_C_edge_56 (by decide) rfl (by decide) (by omega) (zRn h_i) ?_
        refine zU_iload_n d_C_edge_57 rfl ?_
        refine zU_iload_n d_C_edge_58 rfl ?_
        refine zU_callVi (p0 := (3 + 3 * i)) [zi (s' : Int), zi (e' : Int)] d_C_edge_59 k_C_91 rfl (zMl h_i) (zMk h_i) rfl (by decide) (Nat.le_of_ble_eq_true rfl) (fun l => m_M_hasEdge l μ h_i hs6 (e := e') (by omega) ((hA i hi).2.2.2.2.2.2 s' hs6).1.1) (fun r59 μ59 h59 => ?_)
        obtain ⟨hμ59, hr59⟩ := h59
        rw [((hA i hi).2.2.2.2.2.2 s' hs6).1.2 e' he12] at hr59
        subst hr59
        replace hμ59 := hμ59.symm
        subst hμ59
        refine zU_if_eq 73 d_C_edge_62 (by decide) (zBr _) (fun h62 => ?_) (fun h62 => ?_)
        · refine zU_aload_n d_C_edge_73 rfl ?_
          refine zU_iconst d_C_edge_74 ?_
          refine zU_putI d_C_edge_75 f_C_60 p_C_resultStands (by decide) rfl rfl (Or.inr ⟨rfl, by omega⟩) ?_
          refine zU_aload_n d_C_edge_78 rfl ?_
          refine zU_getR 1 d_C_edge_79 f_C_12 (by decide) rfl rfl rfl ?_
          refine zU_getR 2 d_C_edge_82 f_C_87 (by decide) rfl rfl rfl ?_
          refine zU_iload_n d_C_edge_85 rfl ?_
          refine zU_aald (3 + 3 * i) d_C_edge_86 (by decide) rfl (by decide) (by omega) (zRn h_i) ?_
          refine zU_iload_n d_C_edge_87 rfl ?_
          refine zU_iload_n d_C_edge_88 rfl ?_
          refine zU_iload d_C_edge_89 rfl ?_
          refine zU_callVv (p0 := (3 + 3 * i)) [zi (s' : Int), zi (e' : Int), zi (t' : Int)] d_C_edge_91 k_C_96 rfl (zMl h_i) (zMk h_i) rfl (by decide) (Nat.le_of_ble_eq_true rfl) (fun l => m_M_addEdge l (zup μ 0 6 0) ha (cRep_congr hc (fun q hq => zup_ne _ _ _ (by omega)) ha) (t := (t' : Int)) hi hs6 he12 (by omega)) (fun μ91 h91 => ?_)
          exact zU_return d_C_edge_94 rfl (by decide) (by decide) (Or.inl ⟨rfl, i, s', e', t', rfl, rfl, rfl, rfl, hi, by omega, by omega, he12, zB_nz.mp h45, of_decide_eq_false (zB_zero.mp h62), h91.1, by rw [h91.2 0 (by omega) (by omega) (by omega)]; simp [zup_at], fun q q0 q1 q2 q3 => by rw [h91.2 q q1 q2 q3, zup_ne _ _ _ q0]⟩)
        · exact zU_throw 1 d_C_edge_65 d_C_edge_68 d_C_edge_69 d_C_edge_72 w_C_57 (by decide) (Or.inr ⟨1, rfl, rfl, Or.inr ⟨rfl, ⟨g1, g2, by omega, by omega⟩, Or.inr (of_decide_eq_true (zB_nz.mp h62))⟩⟩)
    · exact zU_throw 0 d_C_edge_25 d_C_edge_28 d_C_edge_29 d_C_edge_32 w_C_50 (by decide) (Or.inr ⟨0, rfl, rfl, Or.inl ⟨rfl, fun h => of_decide_eq_false (zB_zero.mp h22) h.2.1⟩⟩)
set_option maxRecDepth 100000 in
set_option maxHeartbeats 4000000 in
theorem m_C_tell (l : Launch) (μ : zM) {a : aT} (ha : aOk a) (hc : cRep a μ) {x s w : Int} {on : Bool} (hx : -2147483648 ≤ x ∧ x ≤ 2147483647) (hs : -2147483648 ≤ s ∧ s ≤ 2147483647) (hw : -2147483648 ≤ w ∧ w ≤ 2147483647) :
    zC l y_C_tell b_C_tell 5 none [] 6 1 81 false [zp 0, zi x, zi s, zi w, zi (zB on)] μ (zRvt (fun μ' => ∃ i s' w' : Nat, x = i ∧ s = s' ∧ w = w' ∧ i < aN a ∧ s' < aS a i ∧ w' < 3 ∧ cRep (aTell a i s' w' on) μ' ∧ μ' 0 6 = 0 ∧ ∀ q, q ≠ 0 → q ≠ 3 + 3 * i → μ' q = μ q) (fun k μ' => μ' = μ ∧ k = 0 ∧ ¬ ((0 ≤ x ∧ x < aN a ∧ 0 ≤ s ∧ s < aS a x.toNat) ∧ 0 ≤ w ∧ w < 3))) := by
  refine zC.of (own := n_C) (L := [some (zp 0), some (zi x), some (zi s), some (zi w), some (zi (zB on))]) (by decide) rfl (by simp [zcat]) (Nat.le_of_ble_eq_true rfl) rfl (fun Γ => ?_)
  obtain ⟨hN, hD, hCt, hA⟩ := id hc
  have hN4 := ha.1
  refine zU_aload_n d_C_tell_0 rfl ?_
  refine zU_getR 1 d_C_tell_1 f_C_12 (by decide) rfl rfl rfl ?_
  refine zU_iload_n d_C_tell_4 rfl ?_
  refine zU_iload_n d_C_tell_5 rfl ?_
  refine zU_callVi (p0 := 1) [zi x, zi s] d_C_tell_6 k_C_83 rfl (by decide) rfl rfl (by decide) (Nat.le_of_ble_eq_true rfl) (fun l => m_A_hasState l μ ha hc hx hs) (fun r6 μ6 h6 => ?_)
  obtain ⟨hμ6, rfl⟩ := h6
  replace hμ6 := hμ6.symm
  subst hμ6
  refine zU_if_eq 21 d_C_tell_9 (by decide) (zBr _) (fun h9 => ?_) (fun h9 => ?_)
  · exact zU_throw 0 d_C_tell_21 d_C_tell_24 d_C_tell_25 d_C_tell_28 w_C_50 (by decide) (Or.inr ⟨0, rfl, rfl, rfl, fun h => of_decide_eq_false (zB_zero.mp h9) h.1⟩)
  · refine zU_iload_n d_C_tell_12 rfl ?_
    refine zU_if_lt 21 d_C_tell_13 (by decide) (by omega) (fun h13 => ?_) (fun h13 => ?_)
    · exact zU_throw 0 d_C_tell_21 d_C_tell_24 d_C_tell_25 d_C_tell_28 w_C_50 (by decide) (Or.inr ⟨0, rfl, rfl, rfl, by omega⟩)
    · refine zU_iload_n d_C_tell_16 rfl ?_
      refine zU_iconst d_C_tell_17 ?_
      refine zU_icmp_le 29 d_C_tell_18 (by decide) (by omega) (by omega) (fun h18 => ?_) (fun h18 => ?_)
      · have g1 := of_decide_eq_true (zB_nz.mp h9)
        obtain ⟨i, hxi⟩ : ∃ i : Nat, x = (i : Int) := ⟨x.toNat, by omega⟩
        obtain ⟨s', hss⟩ : ∃ i : Nat, s = (i : Int) := ⟨s.toNat, by omega⟩
        obtain ⟨w', hww⟩ : ∃ i : Nat, w = (i : Int) := ⟨w.toNat, by omega⟩
        subst hxi hss hww
        simp only [Int.toNat_natCast] at g1
        have hi : i < aN a := by omega
        have h_i : i < 4 := by omega
        have hS := (ha.2 i hi).1
        have hs6 : s' < 6 := by omega
        have hw3 : w' < 3 := by omega
        refine zU_aload_n d_C_tell_29 rfl ?_
        refine zU_iconst d_C_tell_30 ?_
        refine zU_putI d_C_tell_31 f_C_60 p_C_resultStands (by decide) rfl rfl (Or.inr ⟨rfl, by omega⟩) ?_
        refine zU_aload_n d_C_tell_34 rfl ?_
        refine zU_getR 1 d_C_tell_35 f_C_12 (by decide) rfl rfl rfl ?_
        refine zU_getR 2 d_C_tell_38 f_C_87 (by decide) rfl rfl rfl ?_
        refine zU_iload_n d_C_tell_41 rfl ?_
        refine zU_aald (3 + 3 * i) d_C_tell_42 (by decide) rfl (by decide) (by omega) (zRn h_i) ?_
        refine zU_iload_n d_C_tell_43 rfl ?_
        refine zU_iload_n d_C_tell_44 rfl ?_
        refine zU_iload d_C_tell_45 rfl ?_
        refine zU_callVv (p0 := (3 + 3 * i)) [zi (s' : Int), zi (w' : Int), zi (zB on)] d_C_tell_47 k_C_100 rfl (zMl h_i) (zMk h_i) rfl (by decide) (Nat.le_of_ble_eq_true rfl) (fun l => m_M_change l (zup μ 0 6 0) ha (cRep_congr hc (fun q hq => zup_ne _ _ _ (by omega)) ha) (on := on) hi hs6 hw3) (fun μ47 h47 => ?_)
        exact zU_return d_C_tell_50 rfl (by decide) (by decide) (Or.inl ⟨rfl, i, s', w', rfl, rfl, rfl, hi, by omega, hw3, h47.1, by rw [h47.2 0 (by omega)]; simp [zup_at], fun q q0 q1 => by rw [h47.2 q q1, zup_ne _ _ _ q0]⟩)
      · exact zU_throw 0 d_C_tell_21 d_C_tell_24 d_C_tell_25 d_C_tell_28 w_C_50 (by decide) (Or.inr ⟨0, rfl, rfl, rfl, by omega⟩)
set_option maxRecDepth 100000 in
set_option maxHeartbeats 4000000 in
theorem m_C_clear (l : Launch) (μ : zM) {a : aT} :
    zC l y_C_clear b_C_clear 1 none [] 1 0 20 false [zp 0] μ (zRv (fun μ' => cRep (aClr a) μ' ∧ μ' 0 6 = 0 ∧ ∀ q, q ≠ 0 → q ≠ 1 → μ' q = μ q)) := by
  refine zC.of (own := n_C) (L := [some (zp 0)]) (by decide) rfl (by simp [zcat]) (Nat.le_of_ble_eq_true rfl) rfl (fun Γ => ?_)
  refine zU_aload_n d_C_clear_0 rfl ?_
  refine zU_iconst d_C_clear_1 ?_
  refine zU_putI d_C_clear_2 f_C_60 p_C_resultStands (by decide) rfl rfl (Or.inr ⟨rfl, by omega⟩) ?_
  refine zU_aload_n d_C_clear_5 rfl ?_
  refine zU_getR 1 d_C_clear_6 f_C_12 (by decide) rfl rfl rfl ?_
  refine zU_callVv (p0 := 1) [] d_C_clear_9 k_C_104 rfl (by decide) rfl rfl (by decide) (Nat.le_of_ble_eq_true rfl) (fun l => m_A_removeAll l (zup μ 0 6 0) (a := a)) (fun μ9 h9 => ?_)
  exact zU_return d_C_clear_12 rfl (by decide) (by decide) (⟨rfl, h9.1, by rw [h9.2 0 (by omega)]; simp [zup_at], fun q q0 q1 => by rw [h9.2 q q1, zup_ne _ _ _ q0]⟩)
