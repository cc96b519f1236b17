theorem vd_r (t : Nat) (u : Bool) : 0 ≤ vd t u ∧ vd t u ≤ 2 := by
  unfold vd
  split
  · split <;> omega
  · omega
theorem vd_rr (t : Nat) (u : Bool) : -2147483648 ≤ vd t u ∧ vd t u ≤ 2147483647 := by
  have := vd_r t u
  omega
theorem vd_0 {t : Nat} {u : Bool} : vd t u = 0 ↔ t ≠ 0 := by
  unfold vd
  by_cases h : t = 0
  · simp only [h, if_true]
    split <;> simp
  · simp [h]
theorem vd_1 {t : Nat} {u : Bool} : vd t u = 1 ↔ t = 0 ∧ u = true := by
  unfold vd
  by_cases h : t = 0
  · simp only [h, if_true]
    cases u <;> simp
  · simp [h]
theorem cRep_far {a : aT} {μ μ' : zM} (h : cRep a μ) (ha : aOk a) (hq : ∀ q, 1 ≤ q → q < 15 → μ' q = μ q) : cRep a μ' := cRep_congr h (fun q h => hq q (by omega) (by omega)) ha
theorem gBase_congr {L : List Nat} {μ μ' : zM} (h : gBase L μ) (h15 : μ' 15 = μ 15) (h16 : μ' 16 = μ 16) (h17 : μ' 17 = μ 17) : gBase L μ' := by
  unfold gBase
  rw [h15, h16, h17]
  exact h
theorem cWor_place {a : aT} {N : Nat} {K : Nat → Bool} {M p p' : Nat} {μ μ' : zM} (h : cWor a (some (N, K, M, p)) μ) (hp : 0 < M → p' < M) (hq : ∀ q, q ≠ 0 → μ' q = μ q) (h6 : μ' 0 6 = μ 0 6) (h7 : μ' 0 7 = ((p' + 1 : Nat) : Int)) : cWor a (some (N, K, M, p')) μ' := by
  obtain ⟨ha, hc, ⟨L, hL⟩, h33, hv⟩ := h
  refine ⟨ha, cRep_far hc ha (fun q h1 _ => hq q (by omega)), ⟨L, gBase_congr hL (hq _ (by decide)) (hq _ (by decide)) (hq _ (by decide))⟩, by rw [hq 33 (by decide)]; exact h33, ?_⟩
  rcases hv with ⟨h, -⟩ | ⟨N', K', M', x', he, h1, h2, h3, h4⟩
  · cases h
  · cases he
    exact Or.inr ⟨N, K, M, p', rfl, by rw [h6]; exact h1, h2, sSup_congr h3 (fun q h1 _ => hq q (by omega)), fun h => ⟨hp h, h7⟩⟩
theorem ready_I {a : aT} {mem : Nat → Bool} (h : aReady a mem = true) : ∀ i, i < aN a → mem i = true → 0 ≤ aI a i := by
  intro i hi hm
  unfold aReady at h
  rw [Bool.and_eq_true] at h
  have h1 := all_iff.mp h.1 i hi
  simp only [hm, Bool.not_true, Bool.false_or, decide_eq_true_eq] at h1
  exact h1
set_option maxRecDepth 100000 in
set_option maxHeartbeats 4000000 in
theorem m_C_act (l : Launch) (μ : zM) {a : aT} {v : vT} (hW : cWor a v μ) {y : Int} (hy : -2147483648 ≤ y ∧ y ≤ 2147483647) :
    zC l y_C_act b_C_act 3 (some .int) [] 7 2 101 false [zp 0, zi y] μ (zRit (fun r μ' => (∃ N K M p, ∃ k e : Nat, v = some (N, K, M, p) ∧ p < M ∧ y = (e : Int) ∧ e < 12 ∧ (eO a N K M)[p]? = some k ∧ ((r = 2 ∧ ktg (gtg (eg a N)) K k e ≠ 0 ∧ ∃ p' : Nat, p' < M ∧ (eO a N K M)[p']? = some (ktg (gtg (eg a N)) K k e - 1) ∧ cWor a (some (N, K, M, p')) μ') ∨ (r = 1 ∧ ktg (gtg (eg a N)) K k e = 0 ∧ sU a (eg a N) k e = true ∧ μ' = μ) ∨ (r = 0 ∧ ktg (gtg (eg a N)) K k e = 0 ∧ sU a (eg a N) k e = false ∧ μ' = μ))) ∧ ∀ q, q ≠ 0 → μ' q = μ q) (fun k μ' => μ' = μ ∧ ((k = 1 ∧ vM v = 0) ∨ (k = 0 ∧ vM v ≠ 0 ∧ ¬ (0 ≤ y ∧ y < 12))))) := by
  refine zC.of (own := n_C) (L := [some (zp 0), some (zi y), none]) (by decide) rfl (by simp [zcat]) (Nat.le_of_ble_eq_true rfl) rfl (fun Γ => ?_)
  refine zU_aload_n d_C_act_0 rfl ?_
  refine zU_callVvt (p0 := 0) [] d_C_act_1 k_C_132 rfl (by decide) rfl rfl (by decide) (Nat.le_of_ble_eq_true rfl) (fun l => m_C_requireSupervisor l μ (cWor_6 hW) (cWor_33 hW)) (fun μ1 h1 => ?_) (fun k μt ht => zthru (by decide) (by decide) (Or.inr ⟨k, rfl, ht.1, Or.inl ⟨ht.2.1, Classical.not_not.mp (fun h => ht.2.2 ((cWor_vM hW).mpr h))⟩⟩))
  obtain ⟨hμ1, hs1⟩ := h1
  replace hμ1 := hμ1.symm
  subst hμ1
  have hvM := (cWor_vM hW).mp hs1
  obtain ⟨N, K, M, p, hv, hM, hS, h33, hM200, hp⟩ := cWor_get hW hs1.1
  have hOl : (eO a N K M).length ≤ 200 := by rw [hM.2.2.2.2.1.1]; exact hM200
  obtain ⟨hpM, h07⟩ := hp (by omega)
  have hvMe : vM v = M := by rw [hv]; rfl
  obtain ⟨k, c, hk, hkN, hkc, hc1, hU1, hD1, hT1⟩ := sSt hM hS hpM
  refine zU_iload_n d_C_act_4 rfl ?_
  refine zU_callSvt [zi y] d_C_act_5 k_C_68 rfl (by decide) (Nat.le_of_ble_eq_true rfl) (fun l => m_C_requireEvent l μ hy) (fun μ5 h5 => ?_) (fun k μt ht => zthru (by decide) (by decide) (Or.inr ⟨k, rfl, ht.1, Or.inr ⟨ht.2.1, hvM, ht.2.2⟩⟩))
  obtain ⟨hμ5, hs5⟩ := h5
  replace hμ5 := hμ5.symm
  subst hμ5
  obtain ⟨e, hye⟩ : ∃ e : Nat, y = (e : Int) := ⟨y.toNat, by omega⟩
  subst hye
  have he : e < 12 := by omega
  have hvr := vd_r (ktg (gtg (eg a N)) K k e) (sU a (eg a N) k e)
  have hv0 := @vd_0 (ktg (gtg (eg a N)) K k e) (sU a (eg a N) k e)
  have hv1 := @vd_1 (ktg (gtg (eg a N)) K k e) (sU a (eg a N) k e)
  refine zU.eqL (L' := [some (zp 0), some (zi (e : Int)), none]) (rfl) ?_
  refine zU_aload_n d_C_act_8 rfl ?_
  refine zU_getR 33 d_C_act_9 f_C_40 (by decide) rfl rfl rfl ?_
  refine zU_aload_n d_C_act_12 rfl ?_
  refine zU_getI (v := ((p + 1 : Nat) : Int)) d_C_act_13 f_C_118 (by decide) rfl rfl (h07) ?_
  refine zU_iload_n d_C_act_16 rfl ?_
  refine zU_callVi (p0 := 33) [zi ((p + 1 : Nat) : Int), zi (e : Int)] d_C_act_17 k_C_126 rfl (by decide) rfl rfl (by decide) (Nat.le_of_ble_eq_true rfl) (fun l => m_S_verdict l μ (j := 0) (s := p) (e := e) (by decide) (by omega) he hOl (hT1 e he) hU1) (fun r17 μ17 h17 => ?_)
  obtain ⟨hμ17, hr17⟩ := h17
  replace hμ17 := hμ17.symm
  subst hμ17
  subst hr17
  refine zU_istore_n d_C_act_20 (by decide) ?_
  refine zU.eqL (L' := [some (zp 0), some (zi (e : Int)), some (zi (vd (ktg (gtg (eg a N)) K k e) (sU a (eg a N) k e)))]) rfl ?_
  refine zU_iload_n d_C_act_21 rfl ?_
  refine zU_if_ne 43 d_C_act_22 (by decide) (vd_rr _ _) (fun h22 => ?_) (fun h22 => ?_)
  · refine zU_iload_n d_C_act_43 rfl ?_
    refine zU_iconst d_C_act_44 ?_
    refine zU_icmp_ne 52 d_C_act_45 (by decide) (by first | exact vd_rr _ _ | decide) (by first | exact vd_rr _ _ | decide) (fun h45 => ?_) (fun h45 => ?_)
    · refine zU_iconst d_C_act_52 ?_
      exact zU_ireturn d_C_act_53 (Or.inl rfl) (by decide) (by decide) (Or.inl ⟨_, rfl, ⟨N, K, M, p, k, e, hv, hpM, rfl, he, hk, Or.inr (Or.inr ⟨rfl, Classical.not_not.mp (fun h => h22 (hv0.mpr h)), by cases hu : sU a (eg a N) k e; { rfl }; { exact absurd (hv1.mpr ⟨Classical.not_not.mp (fun h => h22 (hv0.mpr h)), hu⟩) h45 }, rfl⟩)⟩, fun _ _ => rfl⟩)
    · refine zU_iconst d_C_act_48 ?_
      refine zU_goto 53 d_C_act_49 (by decide) ?_
      exact zU_ireturn d_C_act_53 (Or.inl rfl) (by decide) (by decide) (Or.inl ⟨_, rfl, ⟨N, K, M, p, k, e, hv, hpM, rfl, he, hk, Or.inr (Or.inl ⟨rfl, (hv1.mp h45).1, (hv1.mp h45).2, rfl⟩)⟩, fun _ _ => rfl⟩)
  · refine zU_aload_n d_C_act_25 rfl ?_
    refine zU_aload_n d_C_act_26 rfl ?_
    refine zU_getR 33 d_C_act_27 f_C_40 (by decide) rfl rfl rfl ?_
    refine zU_aload_n d_C_act_30 rfl ?_
    refine zU_getI (v := ((p + 1 : Nat) : Int)) d_C_act_31 f_C_118 (by decide) rfl rfl (h07) ?_
    refine zU_iload_n d_C_act_34 rfl ?_
    refine zU_callVi (p0 := 33) [zi ((p + 1 : Nat) : Int), zi (e : Int)] d_C_act_35 k_C_129 rfl (by decide) rfl rfl (by decide) (Nat.le_of_ble_eq_true rfl) (fun l => m_S_target l μ (j := 0) (s := p) (e := e) (by decide) (by omega) he) (fun r35 μ35 h35 => ?_)
    obtain ⟨hμ35, hr35⟩ := h35
    replace hμ35 := hμ35.symm
    subst hμ35
    obtain ⟨hne, p', hp'1, hp'2⟩ : ktg (gtg (eg a N)) K k e ≠ 0 ∧ ∃ p' : Nat, (eO a N K M)[p']? = some (ktg (gtg (eg a N)) K k e - 1) ∧ μ (38 + 6 * 0) (12 * (p + 1) + e) = ((p' + 1 : Nat) : Int) := by
      rcases hT1 e he with h | h
      · exact absurd h.1 (hv0.mp h22)
      · exact h
    rw [hp'2] at hr35
    subst hr35
    have hp'M : p' < M := by have := (List.getElem?_eq_some_iff.mp hp'1).1; rw [hM.2.2.2.2.1.1] at this; exact this
    refine zU_putI d_C_act_38 f_C_118 p_C_place (by decide) rfl rfl (Or.inl rfl) ?_
    refine zU_iconst d_C_act_41 ?_
    exact zU_ireturn d_C_act_42 (Or.inl rfl) (by decide) (by decide) (Or.inl ⟨_, rfl, ⟨N, K, M, p, k, e, hv, hpM, rfl, he, hk, Or.inl ⟨rfl, hne, p', hp'M, hp'1, cWor_place (hv ▸ hW) (fun _ => hp'M) (fun q q0 => zup_ne _ _ _ q0) (by rw [zup_at]; simp) (by rw [zup_at]; simp)⟩⟩, fun q q0 => zup_ne _ _ _ q0⟩)
set_option maxRecDepth 100000 in
set_option maxHeartbeats 4000000 in
theorem m_C_reset (l : Launch) (μ : zM) {a : aT} {v : vT} (hW : cWor a v μ) :
    zC l y_C_reset b_C_reset 1 none [] 7 1 101 false [zp 0] μ (zRvt (fun μ' => (∃ N K M p, v = some (N, K, M, p) ∧ 0 < M ∧ cWor a (some (N, K, M, 0)) μ') ∧ ∀ q, q ≠ 0 → μ' q = μ q) (fun k μ' => μ' = μ ∧ k = 1 ∧ vM v = 0)) := by
  refine zC.of (own := n_C) (L := [some (zp 0)]) (by decide) rfl (by simp [zcat]) (Nat.le_of_ble_eq_true rfl) rfl (fun Γ => ?_)
  refine zU_aload_n d_C_reset_0 rfl ?_
  refine zU_callVvt (p0 := 0) [] d_C_reset_1 k_C_132 rfl (by decide) rfl rfl (by decide) (Nat.le_of_ble_eq_true rfl) (fun l => m_C_requireSupervisor l μ (cWor_6 hW) (cWor_33 hW)) (fun μ1 h1 => ?_) (fun k μt ht => zthru (by decide) (by decide) (Or.inr ⟨k, rfl, ht.1, ht.2.1, Classical.not_not.mp (fun h => ht.2.2 ((cWor_vM hW).mpr h))⟩))
  obtain ⟨hμ1, hs1⟩ := h1
  replace hμ1 := hμ1.symm
  subst hμ1
  have hvM := (cWor_vM hW).mp hs1
  obtain ⟨N, K, M, p, hv, hM, hS, h33, hM200, hp⟩ := cWor_get hW hs1.1
  have hOl : (eO a N K M).length ≤ 200 := by rw [hM.2.2.2.2.1.1]; exact hM200
  obtain ⟨hpM, h07⟩ := hp (by omega)
  have hvMe : vM v = M := by rw [hv]; rfl
  obtain ⟨k, c, hk, hkN, hkc, hc1, hU1, hD1, hT1⟩ := sSt hM hS hpM
  refine zU_aload_n d_C_reset_4 rfl ?_
  refine zU_iconst d_C_reset_5 ?_
  refine zU_putI d_C_reset_6 f_C_118 p_C_place (by decide) rfl rfl (Or.inl rfl) ?_
  exact zU_return d_C_reset_9 rfl (by decide) (by decide) (Or.inl ⟨rfl, ⟨N, K, M, p, hv, by omega, cWor_place (hv ▸ hW) (fun h => h) (fun q q0 => zup_ne _ _ _ q0) (by rw [zup_at]; simp) (by rw [zup_at]; simp)⟩, fun q q0 => zup_ne _ _ _ q0⟩)
set_option maxRecDepth 100000 in
set_option maxHeartbeats 4000000 in
theorem m_C_here (l : Launch) (μ : zM) {a : aT} {v : vT} (hW : cWor a v μ) :
    zC l y_C_here b_C_here 1 (some .int) [] 7 1 101 true [zp 0] μ (zRit (fun r μ' => μ' = μ ∧ ∃ N K M p, v = some (N, K, M, p) ∧ p < M ∧ r = ((p + 1 : Nat) : Int)) (fun k μ' => μ' = μ ∧ k = 1 ∧ vM v = 0)) := by
  refine zC.of (own := n_C) (L := [some (zp 0)]) (by decide) rfl (by simp [zcat]) (Nat.le_of_ble_eq_true rfl) rfl (fun Γ => ?_)
  refine zU_aload_n d_C_here_0 rfl ?_
  refine zU_callVvt (p0 := 0) [] d_C_here_1 k_C_132 rfl (by decide) rfl rfl (by decide) (Nat.le_of_ble_eq_true rfl) (fun l => m_C_requireSupervisor l μ (cWor_6 hW) (cWor_33 hW)) (fun μ1 h1 => ?_) (fun k μt ht => zthru (by decide) (by decide) (Or.inr ⟨k, rfl, ht.1, ht.2.1, Classical.not_not.mp (fun h => ht.2.2 ((cWor_vM hW).mpr h))⟩))
  obtain ⟨hμ1, hs1⟩ := h1
  replace hμ1 := hμ1.symm
  subst hμ1
  have hvM := (cWor_vM hW).mp hs1
  obtain ⟨N, K, M, p, hv, hM, hS, h33, hM200, hp⟩ := cWor_get hW hs1.1
  have hOl : (eO a N K M).length ≤ 200 := by rw [hM.2.2.2.2.1.1]; exact hM200
  obtain ⟨hpM, h07⟩ := hp (by omega)
  have hvMe : vM v = M := by rw [hv]; rfl
  obtain ⟨k, c, hk, hkN, hkc, hc1, hU1, hD1, hT1⟩ := sSt hM hS hpM
  refine zU_aload_n d_C_here_4 rfl ?_
  refine zU_getI (v := ((p + 1 : Nat) : Int)) d_C_here_5 f_C_118 (by decide) rfl rfl (h07) ?_
  exact zU_ireturn d_C_here_8 (Or.inl rfl) (by decide) (by decide) (Or.inl ⟨_, rfl, rfl, N, K, M, p, hv, hpM, rfl⟩)
set_option maxRecDepth 100000 in
set_option maxHeartbeats 4000000 in
theorem m_C_allowed (l : Launch) (μ : zM) {a : aT} {v : vT} (hW : cWor a v μ) :
    zC l y_C_allowed b_C_allowed 3 (some .int) [] 7 1 101 true [zp 0] μ (zRit (fun r μ' => μ' = μ ∧ ∃ N K M p, ∃ k : Nat, v = some (N, K, M, p) ∧ p < M ∧ (eO a N K M)[p]? = some k ∧ r = ((bsum (fun e => decide (ktg (gtg (eg a N)) K k e ≠ 0)) 12 : Nat) : Int)) (fun k μ' => μ' = μ ∧ k = 1 ∧ vM v = 0)) := by
  refine zC.of (own := n_C) (L := [some (zp 0), none, none]) (by decide) rfl (by simp [zcat]) (Nat.le_of_ble_eq_true rfl) rfl (fun Γ => ?_)
  refine zU_aload_n d_C_allowed_0 rfl ?_
  refine zU_callVvt (p0 := 0) [] d_C_allowed_1 k_C_132 rfl (by decide) rfl rfl (by decide) (Nat.le_of_ble_eq_true rfl) (fun l => m_C_requireSupervisor l μ (cWor_6 hW) (cWor_33 hW)) (fun μ1 h1 => ?_) (fun k μt ht => zthru (by decide) (by decide) (Or.inr ⟨k, rfl, ht.1, ht.2.1, Classical.not_not.mp (fun h => ht.2.2 ((cWor_vM hW).mpr h))⟩))
  obtain ⟨hμ1, hs1⟩ := h1
  replace hμ1 := hμ1.symm
  subst hμ1
  have hvM := (cWor_vM hW).mp hs1
  obtain ⟨N, K, M, p, hv, hM, hS, h33, hM200, hp⟩ := cWor_get hW hs1.1
  have hOl : (eO a N K M).length ≤ 200 := by rw [hM.2.2.2.2.1.1]; exact hM200
  obtain ⟨hpM, h07⟩ := hp (by omega)
  have hvMe : vM v = M := by rw [hv]; rfl
  obtain ⟨k, c, hk, hkN, hkc, hc1, hU1, hD1, hT1⟩ := sSt hM hS hpM
  refine zU_iconst d_C_allowed_4 ?_
  refine zU_istore_n d_C_allowed_5 (by decide) ?_
  refine zU.eqL (L' := [some (zp 0), some (zi 0), none]) rfl ?_
  refine zU_iconst d_C_allowed_6 ?_
  refine zU_istore_n d_C_allowed_7 (by decide) ?_
  refine zU.eqL (L' := [some (zp 0), some (zi 0), some (zi 0)]) rfl ?_
  have hJ8 : ∀ (d : Nat) (e : Nat), e + d = 12 → zU Γ b_C_allowed n_C 3 (some .int) [] (zRm 7 1 101) 0 0 (zFin Γ 1 true (zRit (fun r μ' => μ' = μ ∧ ∃ N K M p, ∃ k : Nat, v = some (N, K, M, p) ∧ p < M ∧ (eO a N K M)[p]? = some k ∧ r = ((bsum (fun e => decide (ktg (gtg (eg a N)) K k e ≠ 0)) 12 : Nat) : Int)) (fun k μ' => μ' = μ ∧ k = 1 ∧ vM v = 0))) true (0 + 1) μ 8 [some (zp 0), some (zi ((bsum (fun e => decide (ktg (gtg (eg a N)) K k e ≠ 0)) e : Nat) : Int)), some (zi (e : Int))] [] := by
    intro d
    induction d using Nat.strongRecOn with
    | _ d ih8 =>
      intro e hd
      refine zU_iload_n d_C_allowed_8 rfl ?_
      refine zU_bipush d_C_allowed_9 (by decide) ?_
      refine zU_icmp_ge 41 d_C_allowed_11 (by decide) (by omega) (by omega) (fun h11 => ?_) (fun h11 => ?_)
      · refine zU_iload_n d_C_allowed_41 rfl ?_
        exact zU_ireturn d_C_allowed_42 (Or.inl rfl) (by decide) (by decide) (Or.inl ⟨_, rfl, rfl, N, K, M, p, k, hv, hpM, hk, by have he : e = 12 := (by omega); rw [he]⟩)
      · refine zU_aload_n d_C_allowed_14 rfl ?_
        refine zU_getR 33 d_C_allowed_15 f_C_40 (by decide) rfl rfl rfl ?_
        refine zU_aload_n d_C_allowed_18 rfl ?_
        refine zU_getI (v := ((p + 1 : Nat) : Int)) d_C_allowed_19 f_C_118 (by decide) rfl rfl (h07) ?_
        refine zU_iload_n d_C_allowed_22 rfl ?_
        refine zU_callVi (p0 := 33) [zi ((p + 1 : Nat) : Int), zi (e : Int)] d_C_allowed_23 k_C_126 rfl (by decide) rfl rfl (by decide) (Nat.le_of_ble_eq_true rfl) (fun l => m_S_verdict l μ (j := 0) (s := p) (e := e) (by decide) (by omega) (by omega) hOl (hT1 e (by omega)) hU1) (fun r23 μ23 h23 => ?_)
        obtain ⟨hμ23, hr23⟩ := h23
        replace hμ23 := hμ23.symm
        subst hμ23
        subst hr23
        have hvr := vd_r (ktg (gtg (eg a N)) K k e) (sU a (eg a N) k e)
        have hv0 := @vd_0 (ktg (gtg (eg a N)) K k e) (sU a (eg a N) k e)
        refine zU_if_ne 35 d_C_allowed_26 (by decide) (vd_rr _ _) (fun h26 => ?_) (fun h26 => ?_)
        · refine zU.eqL (L' := [some (zp 0), some (zi ((bsum (fun e => decide (ktg (gtg (eg a N)) K k e ≠ 0)) (e + 1) : Nat) : Int)), some (zi (e : Int))]) (congrArg (fun zz : Int => [some (zp 0), some (zi zz), some (zi (e : Int))]) (show ((bsum (fun e => decide (ktg (gtg (eg a N)) K k e ≠ 0)) e : Nat) : Int) = ((bsum (fun e => decide (ktg (gtg (eg a N)) K k e ≠ 0)) (e + 1) : Nat) : Int) by simp only [bsum]; rw [if_neg (by have := fun h => h26 (hv0.mpr h); simpa using this)]; rfl)) ?_
          refine zU_iinc d_C_allowed_35 rfl ?_
          refine zU.eqL (L' := [some (zp 0), some (zi ((bsum (fun e => decide (ktg (gtg (eg a N)) K k e ≠ 0)) (e + 1) : Nat) : Int)), some (zi (((e + 1 : Nat) : Int)))]) (by first | rfl | exact congrArg (fun zz : Int => [some (zp 0), some (zi ((bsum (fun e => decide (ktg (gtg (eg a N)) K k e ≠ 0)) (e + 1) : Nat) : Int)), some (zi zz)]) (show ((e : Int) + 1 : Int) = ((e + 1 : Nat) : Int) by omega)) ?_
          refine zU_goto 8 d_C_allowed_38 (by decide) ?_
          exact ih8 (d - 1) (by omega) (e + 1) (by omega)
        · refine zU_iload_n d_C_allowed_29 rfl ?_
          refine zU_iconst d_C_allowed_30 ?_
          refine zU_iload_n d_C_allowed_31 rfl ?_
          refine zU_ishl d_C_allowed_32 ?_
          refine zU_ior d_C_allowed_33 ?_
          refine zU_istore_n d_C_allowed_34 (by decide) ?_
          refine zU.eqL (L' := [some (zp 0), some (zi (zor ((bsum (fun e => decide (ktg (gtg (eg a N)) K k e ≠ 0)) e : Nat) : Int) (zshl 1 (e : Int)))), some (zi (e : Int))]) rfl ?_
          refine zU.eqL (L' := [some (zp 0), some (zi ((bsum (fun e => decide (ktg (gtg (eg a N)) K k e ≠ 0)) (e + 1) : Nat) : Int)), some (zi (e : Int))]) (congrArg (fun zz : Int => [some (zp 0), some (zi zz), some (zi (e : Int))]) (show zor ((bsum (fun e => decide (ktg (gtg (eg a N)) K k e ≠ 0)) e : Nat) : Int) (zshl 1 (e : Int)) = ((bsum (fun e => decide (ktg (gtg (eg a N)) K k e ≠ 0)) (e + 1) : Nat) : Int) by rw [bsum_or _ (by omega)]; simp only [bsum]; rw [if_pos (by simpa using hv0.mp h26)])) ?_
          refine zU_iinc d_C_allowed_35 rfl ?_
          refine zU.eqL (L' := [some (zp 0), some (zi ((bsum (fun e => decide (ktg (gtg (eg a N)) K k e ≠ 0)) (e + 1) : Nat) : Int)), some (zi (((e + 1 : Nat) : Int)))]) (by first | rfl | exact congrArg (fun zz : Int => [some (zp 0), some (zi ((bsum (fun e => decide (ktg (gtg (eg a N)) K k e ≠ 0)) (e + 1) : Nat) : Int)), some (zi zz)]) (show ((e : Int) + 1 : Int) = ((e + 1 : Nat) : Int) by omega)) ?_
          refine zU_goto 8 d_C_allowed_38 (by decide) ?_
          exact ih8 (d - 1) (by omega) (e + 1) (by omega)
  exact hJ8 12 0 (by omega)
set_option maxRecDepth 100000 in
set_option maxHeartbeats 4000000 in
theorem m_C_home (l : Launch) (μ : zM) {a : aT} {v : vT} (hW : cWor a v μ) :
    zC l y_C_home b_C_home 1 (some .int) [] 7 1 101 true [zp 0] μ (zRit (fun r μ' => μ' = μ ∧ ∃ N K M p, ∃ k : Nat, v = some (N, K, M, p) ∧ p < M ∧ (eO a N K M)[p]? = some k ∧ mDist (gtg (eg a N)) K (sG a (aMem a none) (eg a N)) k r) (fun k μ' => μ' = μ ∧ k = 1 ∧ vM v = 0)) := by
  refine zC.of (own := n_C) (L := [some (zp 0)]) (by decide) rfl (by simp [zcat]) (Nat.le_of_ble_eq_true rfl) rfl (fun Γ => ?_)
  refine zU_aload_n d_C_home_0 rfl ?_
  refine zU_callVvt (p0 := 0) [] d_C_home_1 k_C_132 rfl (by decide) rfl rfl (by decide) (Nat.le_of_ble_eq_true rfl) (fun l => m_C_requireSupervisor l μ (cWor_6 hW) (cWor_33 hW)) (fun μ1 h1 => ?_) (fun k μt ht => zthru (by decide) (by decide) (Or.inr ⟨k, rfl, ht.1, ht.2.1, Classical.not_not.mp (fun h => ht.2.2 ((cWor_vM hW).mpr h))⟩))
  obtain ⟨hμ1, hs1⟩ := h1
  replace hμ1 := hμ1.symm
  subst hμ1
  have hvM := (cWor_vM hW).mp hs1
  obtain ⟨N, K, M, p, hv, hM, hS, h33, hM200, hp⟩ := cWor_get hW hs1.1
  have hOl : (eO a N K M).length ≤ 200 := by rw [hM.2.2.2.2.1.1]; exact hM200
  obtain ⟨hpM, h07⟩ := hp (by omega)
  have hvMe : vM v = M := by rw [hv]; rfl
  obtain ⟨k, c, hk, hkN, hkc, hc1, hU1, hD1, hT1⟩ := sSt hM hS hpM
  refine zU_aload_n d_C_home_4 rfl ?_
  refine zU_getR 33 d_C_home_5 f_C_40 (by decide) rfl rfl rfl ?_
  refine zU_getR 37 d_C_home_8 f_C_180 (by decide) rfl rfl rfl ?_
  refine zU_aload_n d_C_home_11 rfl ?_
  refine zU_getI (v := ((p + 1 : Nat) : Int)) d_C_home_12 f_C_118 (by decide) rfl rfl (h07) ?_
  refine zU_iald (v := μ (37 + 6 * 0) (p + 1)) d_C_home_15 (by decide) rfl (by decide) (by omega) (rfl) ?_
  exact zU_ireturn d_C_home_16 (Or.inl rfl) (by decide) (by decide) (Or.inl ⟨_, rfl, rfl, N, K, M, p, k, hv, hpM, hk, hD1⟩)
set_option maxRecDepth 100000 in
set_option maxHeartbeats 4000000 in
theorem m_C_make (l : Launch) (μ : zM) {a : aT} {v : vT} (hW : cWor a v μ) :
    zC l y_C_make b_C_make 2 (some .int) [] 5 0 117 false [zp 0] μ (zRi (fun r μ' => (∃ v', cWor a v' μ' ∧ rMake a v' r) ∧ ∀ q, 51 ≤ q → μ' q = μ q)) := by
  refine zC.of (own := n_C) (L := [some (zp 0), none]) (by decide) rfl (by simp [zcat]) (Nat.le_of_ble_eq_true rfl) rfl (fun Γ => ?_)
  obtain ⟨ha, hc, ⟨L, hL⟩, h33, -⟩ := id hW
  refine zU_aload_n d_C_make_0 rfl ?_
  refine zU_iconst d_C_make_1 ?_
  refine zU_putI d_C_make_2 f_C_60 p_C_resultStands (by decide) rfl rfl (Or.inr ⟨rfl, by omega⟩) ?_
  have hq2 : ∀ q, q ≠ 0 → zup μ 0 6 0 q = μ q := fun q h => zup_ne _ _ _ h
  have hc1 : cRep a (zup μ 0 6 0) := cRep_far hc ha (fun q h _ => hq2 q (by omega))
  have hL1 : gBase L (zup μ 0 6 0) := gBase_congr hL (hq2 _ (by decide)) (hq2 _ (by decide)) (hq2 _ (by decide))
  refine zU_aload_n d_C_make_5 rfl ?_
  refine zU_getR 1 d_C_make_6 f_C_12 (by decide) rfl rfl rfl ?_
  refine zU_callVi (p0 := 1) [] d_C_make_9 k_C_107 rfl (by decide) rfl rfl (by decide) (Nat.le_of_ble_eq_true rfl) (fun l => m_A_everyone l (zup μ 0 6 0) ha hc1) (fun r9 μ9 h9 => ?_)
  obtain ⟨hμ9, hr9, hb9⟩ := h9
  subst hμ9
  have hm9 : zmask 4 r9 (aMem a none) := ⟨hr9, fun j hj => by rw [hb9 j hj]; simp [aMem]⟩
  refine zU_istore_n d_C_make_12 (by decide) ?_
  refine zU.eqL (L' := [some (zp 0), some (zi (r9))]) rfl ?_
  refine zU_aload_n d_C_make_13 rfl ?_
  refine zU_getR 1 d_C_make_14 f_C_12 (by decide) rfl rfl rfl ?_
  refine zU_iload_n d_C_make_17 rfl ?_
  refine zU_callVi (p0 := 1) [zi (r9)] d_C_make_18 k_C_111 rfl (by decide) rfl rfl (by decide) (Nat.le_of_ble_eq_true rfl) (fun l => m_A_areReady l (zup μ 0 6 0) ha hc1 hm9) (fun r18 μ18 h18 => ?_)
  obtain ⟨hμ18, hr18⟩ := h18
  subst hμ18
  subst hr18
  refine zU_if_ne 27 d_C_make_21 (by decide) (zBr _) (fun h21 => ?_) (fun h21 => ?_)
  · refine zU_aload_n d_C_make_27 rfl ?_
    refine zU_getR 26 d_C_make_28 f_C_24 (by decide) rfl rfl rfl ?_
    refine zU_iload_n d_C_make_31 rfl ?_
    refine zU_aload_n d_C_make_32 rfl ?_
    refine zU_getR 33 d_C_make_33 f_C_40 (by decide) rfl rfl rfl ?_
    refine zU_callVi (p0 := 26) [zi (r9), zp 33] d_C_make_36 k_C_114 rfl (by decide) rfl rfl (by decide) (Nat.le_of_ble_eq_true rfl) (fun l => m_Y_build l (zup μ 0 6 0) ha hc1 hm9 (fun i hi _ => by simp [aMem, hi]) hL1 (ready_I (zB_nz.mp h21)) (j := 0) (by decide)) (fun r36 μ36 h36 => ?_)
    obtain ⟨h36, ⟨L', hL'⟩, hq36⟩ := h36
    have hr36 : r36 = 0 ∨ r36 = 1 := by rcases h36 with h | h; { exact Or.inr h.1 }; { exact Or.inl h.1 }
    have hc36 : cRep a μ36 := cRep_far hc1 ha (fun q _ _ => hq36 q (by omega) (by omega))
    have h06 : μ36 0 6 = 0 := by rw [hq36 0 (by omega) (by omega), zup_at]; simp
    refine zU_if_ne 44 d_C_make_39 (by decide) (by omega) (fun h39 => ?_) (fun h39 => ?_)
    · obtain ⟨N, K, M, hM, hS⟩ : ∃ N K M, sMath a (aMem a none) N K M ∧ sSup a (aMem a none) N K M 0 μ36 := by
        rcases h36 with h | h
        · exact h.2
        · exact absurd h.1 h39
      refine zU_aload_n d_C_make_44 rfl ?_
      refine zU_iconst d_C_make_45 ?_
      refine zU_putI d_C_make_46 f_C_60 p_C_resultStands (by decide) rfl rfl (Or.inr ⟨rfl, by omega⟩) ?_
      refine zU_aload_n d_C_make_49 rfl ?_
      refine zU_iconst d_C_make_50 ?_
      refine zU_putI d_C_make_51 f_C_118 p_C_place (by decide) rfl rfl (Or.inl rfl) ?_
      refine zU_aload_n d_C_make_54 rfl ?_
      refine zU_getR 33 d_C_make_55 f_C_40 (by decide) rfl rfl rfl ?_
      refine zU_getI (v := (M : Int)) d_C_make_58 f_C_121 (by decide) rfl rfl (by rw [zup_ne _ _ _ (by decide), zup_ne _ _ _ (by decide)]; exact hS.1) ?_
      exact zU_ireturn d_C_make_61 (Or.inl rfl) (by decide) (by decide) (⟨_, rfl, ⟨some (N, K, M, 0), ⟨ha, cRep_far hc36 ha (fun q h _ => by rw [zup_ne _ _ _ (by omega), zup_ne _ _ _ (by omega)]), ⟨L', gBase_congr hL' (by rw [zup_ne _ _ _ (by omega), zup_ne _ _ _ (by omega)]) (by rw [zup_ne _ _ _ (by omega), zup_ne _ _ _ (by omega)]) (by rw [zup_ne _ _ _ (by omega), zup_ne _ _ _ (by omega)])⟩, by rw [zup_ne _ _ _ (by omega), zup_ne _ _ _ (by omega)]; have h9 : μ36 33 0 = (M : Int) := hS.1; have := hM.2.1.2; have := hM.2.2.2.2.2.1; omega, Or.inr ⟨N, K, M, 0, rfl, by rw [zup_at, if_neg (by omega), zup_at]; simp, hM, sSup_congr hS (fun q h _ => by rw [zup_ne _ _ _ (by omega), zup_ne _ _ _ (by omega)]), fun h => ⟨h, by rw [zup_at]; simp⟩⟩⟩, Or.inr (Or.inr ⟨N, K, M, rfl, zB_nz.mp h21, hM, rfl⟩)⟩, fun q h => by rw [zup_ne _ _ _ (by omega), zup_ne _ _ _ (by omega), hq36 q (by omega) (by omega), hq2 q (by omega)]⟩)
    · refine zU_iconst d_C_make_42 ?_
      exact zU_ireturn d_C_make_43 (Or.inl rfl) (by decide) (by decide) (⟨_, rfl, ⟨none, ⟨ha, hc36, ⟨L', hL'⟩, by rcases h36 with h | h; { exact absurd h.1 (by omega) }; { rw [h.2.2 33 (by omega), hq2 33 (by decide)]; exact h33 }, Or.inl ⟨rfl, h06⟩⟩, Or.inr (Or.inl ⟨rfl, rfl, zB_nz.mp h21, by rcases h36 with h | h; { exact absurd h.1 (by omega) }; { exact h.2.1 }⟩)⟩, fun q h => by rw [hq36 q (by omega) (by omega), hq2 q (by omega)]⟩)
  · refine zU_bipush d_C_make_24 (by decide) ?_
    exact zU_ireturn d_C_make_26 (Or.inl rfl) (by decide) (by decide) (⟨_, rfl, ⟨none, ⟨ha, hc1, ⟨L, hL1⟩, by rw [hq2 33 (by decide)]; exact h33, Or.inl ⟨rfl, by rw [zup_at]; simp⟩⟩, Or.inl ⟨rfl, rfl, zB_zero.mp h21⟩⟩, fun q h => hq2 q (by omega)⟩)
