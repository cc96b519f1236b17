set_option maxRecDepth 100000 in
set_option maxHeartbeats 4000000 in
theorem m_R_act (l : Launch) (μ : zM) {a : aT} {v : vT} (hW : rWor a v μ) {y : Int} (hy : -2147483648 ≤ y ∧ y ≤ 2147483647) :
    zC l y_R_act b_R_act 2 (some .int) [] 1 0 24 false [zp 51, zi y] μ (zRi (fun r μ' => (∃ v', aAct a v y (μ' 51 0) r v' ∧ rWor a v' μ') ∧ ∀ q, (q < 51 ∨ q = 76) → μ' q = μ q)) := by
  refine zC.of (own := n_R) (L := [some (zp 51), some (zi y)]) (by decide) rfl (by simp [zcat]) (Nat.le_of_ble_eq_true rfl) rfl (fun Γ => ?_)
  have h18 := rWor_18 hW
  have ha := hW.1
  have hN4 := ha.1
  have h51 := hW.2.1.1
  refine zU_aload_n d_R_act_0 rfl ?_
  refine zU_aload_n d_R_act_1 rfl ?_
  refine zU_getI (v := (vM v : Int)) d_R_act_2 f_R_91 (by decide) rfl rfl (h18.1) ?_
  have hJ13 : zU Γ b_R_act n_R 2 (some .int) [] (zRm 1 0 24) 0 0 (zFin Γ 0 false (zRi (fun r μ' => (∃ v', aAct a v y (μ' 51 0) r v' ∧ rWor a v' μ') ∧ ∀ q, (q < 51 ∨ q = 76) → μ' q = μ q))) true 0 μ 13 [some (zp 51), some (zi y)] [zi (zB (decide (vM v = 0))), zp 51] := by
    refine zU_aload_n d_R_act_13 rfl ?_
    refine zU_getI (v := (vM v : Int)) d_R_act_14 f_R_91 (by decide) rfl rfl (h18.1) ?_
    have hJ34 : zU Γ b_R_act n_R 2 (some .int) [] (zRm 1 0 24) 0 0 (zFin Γ 0 false (zRi (fun r μ' => (∃ v', aAct a v y (μ' 51 0) r v' ∧ rWor a v' μ') ∧ ∀ q, (q < 51 ∨ q = 76) → μ' q = μ q))) true 0 μ 34 [some (zp 51), some (zi y)] [zi (zB (decide (vM v ≠ 0) && !decide (0 ≤ y ∧ y < 12))), zi (zB (decide (vM v = 0))), zp 51] := by
      refine zU_callVi (p0 := 51) [zi (zB (decide (vM v = 0))), zi (zB (decide (vM v ≠ 0) && !decide (0 ≤ y ∧ y < 12)))] d_R_act_34 k_R_101 rfl (by decide) rfl rfl (by decide) (Nat.le_of_ble_eq_true rfl) (fun l => m_R_throwing l μ (p := decide (vM v = 0)) (q := decide (vM v ≠ 0) && !decide (0 ≤ y ∧ y < 12))) (fun r34 μ34 h34 => ?_)
      obtain ⟨hr34, hμ34⟩ := h34
      subst hr34
      have hW3 : rWor a v μ34 := by rw [hμ34]; exact rWor_thr hW _
      have hq3 := thr_q hμ34
      have ht3 := thr_0 hμ34
      refine zU_if_eq 42 d_R_act_37 (by decide) (zBr _) (fun h37 => ?_) (fun h37 => ?_)
      · have b37 := zB_zero.mp h37
        obtain ⟨hc0, hn0, hD⟩ := tcd_f b37
        obtain ⟨N, K, M, p, k0, hv, hvM, hs, hO, hG, hB, hT, hl, hp, hpk, hkN0, h28⟩ := rWor_get hW3 hn0
        have hN := hs.2.1.2
        obtain ⟨e, hye⟩ : ∃ e : Nat, y = (e : Int) := ⟨y.toNat, by omega⟩
        have he : e < 12 := by omega
        have hKl : ktg (gtg (eg a N)) K k0 e ≤ N := ktg_leN (gtg_le hs.1 hkN0 he)
        refine zU.eqL (L' := [some (zp 51), some (zi (e : Int))]) (congrArg (fun zz : Int => [some (zp 51), some (zi zz)]) (show (y : Int) = (e : Int) from hye)) ?_
        refine zU_aload_n d_R_act_42 rfl ?_
        refine zU_getR 63 d_R_act_43 f_R_44 (by decide) rfl rfl rfl ?_
        refine zU_bipush d_R_act_46 (by decide) ?_
        refine zU_aload_n d_R_act_48 rfl ?_
        refine zU_getI (v := (k0 : Int)) d_R_act_49 f_R_151 (by decide) rfl rfl (h28) ?_
        refine zU_imul d_R_act_52 ?_
        refine zU_iload_n d_R_act_53 rfl ?_
        refine zU_iadd d_R_act_54 ?_
        refine zU_zald (v := zB (sU a (eg a N) k0 e)) d_R_act_55 (by decide) rfl (by decide) (by omega) (by rw [show ((12 * (k0 : Int)) + (e : Int)).toNat = 12 * k0 + e by omega]; exact (((rT_0 hT).2.2 k0 hkN0).2 e he).2) ?_
        refine zU_if_ne 61 d_R_act_56 (by decide) (zBr _) (fun h56 => ?_) (fun h56 => ?_)
        · have b56 := zB_nz.mp h56
          refine zU_aload_n d_R_act_61 rfl ?_
          refine zU_iconst d_R_act_62 ?_
          refine zU_aload_n d_R_act_63 rfl ?_
          refine zU_getI (v := (k0 : Int)) d_R_act_64 f_R_151 (by decide) rfl rfl (h28) ?_
          refine zU_iload_n d_R_act_67 rfl ?_
          refine zU_callVi (p0 := 51) [zi 0, zi ((k0 : Int)), zi (e : Int)] d_R_act_68 k_R_135 rfl (by decide) rfl rfl (by decide) (Nat.le_of_ble_eq_true rfl) (fun l => m_R_good l μ34 (B := sC a) (w := 0) (by omega) hT hB (k := k0) (e := e) hkN0 he) (fun r68 μ68 h68 => ?_)
          obtain ⟨hμ68, rfl⟩ := h68
          replace hμ68 := hμ68.symm
          subst hμ68
          refine zU_if_ge 76 d_R_act_71 (by decide) (by omega) (fun h71 => ?_) (fun h71 => ?_)
          · obtain ⟨p', hp', hpk'⟩ := oTgt hs.2.2.2.2.1 hpk he (show ktg (gtg (eg a N)) K k0 e ≠ 0 by omega)
            have hW9 := rWor_here (p' := p') (k' := ktg (gtg (eg a N)) K k0 e - 1) (by rw [hv] at hW3; exact hW3) hp' hpk'
            refine zU_aload_n d_R_act_76 rfl ?_
            refine zU_aload_n d_R_act_77 rfl ?_
            refine zU_iconst d_R_act_78 ?_
            refine zU_aload_n d_R_act_79 rfl ?_
            refine zU_getI (v := (k0 : Int)) d_R_act_80 f_R_151 (by decide) rfl rfl (h28) ?_
            refine zU_iload_n d_R_act_83 rfl ?_
            refine zU_callVi (p0 := 51) [zi 0, zi ((k0 : Int)), zi (e : Int)] d_R_act_84 k_R_135 rfl (by decide) rfl rfl (by decide) (Nat.le_of_ble_eq_true rfl) (fun l => m_R_good l μ34 (B := sC a) (w := 0) (by omega) hT hB (k := k0) (e := e) hkN0 he) (fun r84 μ84 h84 => ?_)
            obtain ⟨hμ84, rfl⟩ := h84
            replace hμ84 := hμ84.symm
            subst hμ84
            refine zU_putI d_R_act_87 f_R_151 p_R_here (by decide) rfl rfl (Or.inl rfl) ?_
            refine zU.eqM (μ' := zup μ34 51 28 ((ktg (gtg (eg a N)) K k0 e - 1 : Nat) : Int)) (by rw [show (ktg (gtg (eg a N)) K k0 e : Int) - 1 = ((ktg (gtg (eg a N)) K k0 e - 1 : Nat) : Int) by omega]) ?_
            refine zU_iconst d_R_act_90 ?_
            exact zU_ireturn d_R_act_91 (Or.inl rfl) (by decide) (by decide) (⟨_, rfl, ⟨some (N, K, M, p'), by rw [zup_at, if_neg (by omega), ht3, hc0]; exact Or.inl ⟨rfl, N, K, M, p, k0, e, hv, hp, hye, he, hpk, Or.inl ⟨rfl, by omega, p', hp', hpk', rfl⟩⟩, hW9⟩, fun q hq => by rw [zup_ne _ _ _ (by omega)]; exact hq3 q hq⟩)
          · refine zU_iconst d_R_act_74 ?_
            exact zU_ireturn d_R_act_75 (Or.inl rfl) (by decide) (by decide) (⟨_, rfl, ⟨v, by rw [ht3, hc0]; exact Or.inl ⟨rfl, N, K, M, p, k0, e, hv, hp, hye, he, hpk, Or.inr (Or.inl ⟨rfl, by omega, b56, rfl⟩)⟩, hW3⟩, hq3⟩)
        · have b56 := zB_zero.mp h56
          refine zU_iconst d_R_act_59 ?_
          exact zU_ireturn d_R_act_60 (Or.inl rfl) (by decide) (by decide) (⟨_, rfl, ⟨v, by rw [ht3, hc0]; exact Or.inl ⟨rfl, N, K, M, p, k0, e, hv, hp, hye, he, hpk, Or.inr (Or.inr ⟨rfl, ktg_sU hs hkN0 he b56, b56, rfl⟩)⟩, hW3⟩, hq3⟩)
      · have b37 := zB_nz.mp h37
        refine zU_iconst d_R_act_40 ?_
        exact zU_ireturn d_R_act_41 (Or.inl rfl) (by decide) (by decide) (⟨_, rfl, ⟨v, by rw [ht3]; rcases tcd_t b37 with ⟨h1, h2⟩ | ⟨h1, h2, h3⟩; { exact Or.inr (Or.inl ⟨h1, h2, rfl⟩) }; { exact Or.inr (Or.inr ⟨h1, h2, h3, rfl⟩) }, hW3⟩, hq3⟩)
    refine zU_if_le 33 d_R_act_17 (by decide) (by omega) (fun h17 => ?_) (fun h17 => ?_)
    · refine zU_iconst d_R_act_33 ?_
      refine zU.eqS (st' := [zi (zB (decide (vM v ≠ 0) && !decide (0 ≤ y ∧ y < 12))), zi (zB (decide (vM v = 0))), zp 51]) (congrArg (fun zz : Int => [zi zz, zi (zB (decide (vM v = 0))), zp 51]) (show (0 : Int) = zB (decide (vM v ≠ 0) && !decide (0 ≤ y ∧ y < 12)) from (zBf (andq_0 (by omega))).symm)) ?_
      exact hJ34 
    · refine zU_iload_n d_R_act_20 rfl ?_
      refine zU_bipush d_R_act_21 (by decide) ?_
      refine zU_callSi [zi y, zi 12] d_R_act_23 k_R_94 rfl (by decide) (Nat.le_of_ble_eq_true rfl) (fun l => m_R_out l μ hy (by omega)) (fun r23 μ23 h23 => ?_)
      obtain ⟨hμ23, rfl⟩ := h23
      replace hμ23 := hμ23.symm
      subst hμ23
      refine zU_if_eq 33 d_R_act_26 (by decide) (zBr _) (fun h26 => ?_) (fun h26 => ?_)
      · have b26 := zB_zero.mp h26
        refine zU_iconst d_R_act_33 ?_
        refine zU.eqS (st' := [zi (zB (decide (vM v ≠ 0) && !decide (0 ≤ y ∧ y < 12))), zi (zB (decide (vM v = 0))), zp 51]) (congrArg (fun zz : Int => [zi zz, zi (zB (decide (vM v = 0))), zp 51]) (show (0 : Int) = zB (decide (vM v ≠ 0) && !decide (0 ≤ y ∧ y < 12)) from (zBf (andq_f (nd_f b26))).symm)) ?_
        exact hJ34 
      · have b26 := zB_nz.mp h26
        refine zU_iconst d_R_act_29 ?_
        refine zU_goto 34 d_R_act_30 (by decide) ?_
        refine zU.eqS (st' := [zi (zB (decide (vM v ≠ 0) && !decide (0 ≤ y ∧ y < 12))), zi (zB (decide (vM v = 0))), zp 51]) (congrArg (fun zz : Int => [zi zz, zi (zB (decide (vM v = 0))), zp 51]) (show (1 : Int) = zB (decide (vM v ≠ 0) && !decide (0 ≤ y ∧ y < 12)) from (zBt (andq_t (by omega) (nd_t b26))).symm)) ?_
        exact hJ34 
  refine zU_if_ne 12 d_R_act_5 (by decide) (by omega) (fun h5 => ?_) (fun h5 => ?_)
  · refine zU_iconst d_R_act_12 ?_
    refine zU.eqS (st' := [zi (zB (decide (vM v = 0))), zp 51]) (congrArg (fun zz : Int => [zi zz, zp 51]) (show (0 : Int) = zB (decide (vM v = 0)) from (zBf (by simp [show vM v ≠ 0 by omega])).symm)) ?_
    exact hJ13 
  · refine zU_iconst d_R_act_8 ?_
    refine zU_goto 13 d_R_act_9 (by decide) ?_
    refine zU.eqS (st' := [zi (zB (decide (vM v = 0))), zp 51]) (congrArg (fun zz : Int => [zi zz, zp 51]) (show (1 : Int) = zB (decide (vM v = 0)) from (zBt (by simp [show vM v = 0 by omega])).symm)) ?_
    exact hJ13 
set_option maxRecDepth 100000 in
set_option maxHeartbeats 4000000 in
theorem m_R_reset (l : Launch) (μ : zM) {a : aT} {v : vT} (hW : rWor a v μ) :
    zC l y_R_reset b_R_reset 1 none [] 1 0 22 false [zp 51] μ (zRv (fun μ' => (∃ v', aReset v (μ' 51 0) v' ∧ rWor a v' μ') ∧ ∀ q, (q < 51 ∨ q = 76) → μ' q = μ q)) := by
  refine zC.of (own := n_R) (L := [some (zp 51)]) (by decide) rfl (by simp [zcat]) (Nat.le_of_ble_eq_true rfl) rfl (fun Γ => ?_)
  have h18 := rWor_18 hW
  have ha := hW.1
  have hN4 := ha.1
  have h51 := hW.2.1.1
  refine zU_aload_n d_R_reset_0 rfl ?_
  refine zU_aload_n d_R_reset_1 rfl ?_
  refine zU_getI (v := (vM v : Int)) d_R_reset_2 f_R_91 (by decide) rfl rfl (h18.1) ?_
  have hJ13 : zU Γ b_R_reset n_R 1 none [] (zRm 1 0 22) 0 0 (zFin Γ 0 false (zRv (fun μ' => (∃ v', aReset v (μ' 51 0) v' ∧ rWor a v' μ') ∧ ∀ q, (q < 51 ∨ q = 76) → μ' q = μ q))) true 0 μ 13 [some (zp 51)] [zi (zB (decide (vM v = 0))), zp 51] := by
    refine zU_iconst d_R_reset_13 ?_
    refine zU_callVi (p0 := 51) [zi (zB (decide (vM v = 0))), zi 0] d_R_reset_14 k_R_101 rfl (by decide) rfl rfl (by decide) (Nat.le_of_ble_eq_true rfl) (fun l => m_R_throwing l μ (p := decide (vM v = 0)) (q := false)) (fun r14 μ14 h14 => ?_)
    obtain ⟨hr14, hμ14⟩ := h14
    subst hr14
    have hW3 : rWor a v μ14 := by rw [hμ14]; exact rWor_thr hW _
    have hq3 := thr_q hμ14
    have ht3 := thr_0 hμ14
    refine zU_if_eq 21 d_R_reset_17 (by decide) (zBr _) (fun h17 => ?_) (fun h17 => ?_)
    · have b17 := zB_zero.mp h17
      obtain ⟨hc0, hn0⟩ := tcd_1f b17
      obtain ⟨N, K, M, p, k0, hv, hvM, hs, hO, hG, hB, hT, hl, hp, hpk, hkN0, h28⟩ := rWor_get hW3 hn0
      have hN := hs.2.1.2
      have hW9 := rWor_here (p' := 0) (k' := 0) (by rw [hv] at hW3; exact hW3) (by omega) (oAt_0 (by rw [hl]; omega))
      refine zU_aload_n d_R_reset_21 rfl ?_
      refine zU_iconst d_R_reset_22 ?_
      refine zU_putI d_R_reset_23 f_R_151 p_R_here (by decide) rfl rfl (Or.inl rfl) ?_
      refine zU.eqM (μ' := zup μ14 51 28 ((0 : Nat) : Int)) rfl ?_
      exact zU_return d_R_reset_26 rfl (by decide) (by decide) (⟨rfl, ⟨_, by rw [zup_at, if_neg (by omega), ht3, hc0]; exact Or.inl ⟨rfl, N, K, M, p, hv, by omega, rfl⟩, hW9⟩, fun q hq => by rw [zup_ne _ _ _ (by omega)]; exact hq3 q hq⟩)
    · have b17 := zB_nz.mp h17
      exact zU_return d_R_reset_20 rfl (by decide) (by decide) (⟨rfl, ⟨v, by rw [ht3]; exact Or.inr ⟨(tcd_1t b17).1, (tcd_1t b17).2, rfl⟩, hW3⟩, hq3⟩)
  refine zU_if_ne 12 d_R_reset_5 (by decide) (by omega) (fun h5 => ?_) (fun h5 => ?_)
  · refine zU_iconst d_R_reset_12 ?_
    refine zU.eqS (st' := [zi (zB (decide (vM v = 0))), zp 51]) (congrArg (fun zz : Int => [zi zz, zp 51]) (show (0 : Int) = zB (decide (vM v = 0)) from (zBf (by simp [show vM v ≠ 0 by omega])).symm)) ?_
    exact hJ13 
  · refine zU_iconst d_R_reset_8 ?_
    refine zU_goto 13 d_R_reset_9 (by decide) ?_
    refine zU.eqS (st' := [zi (zB (decide (vM v = 0))), zp 51]) (congrArg (fun zz : Int => [zi zz, zp 51]) (show (1 : Int) = zB (decide (vM v = 0)) from (zBt (by simp [show vM v = 0 by omega])).symm)) ?_
    exact hJ13 
set_option maxRecDepth 100000 in
set_option maxHeartbeats 4000000 in
theorem m_R_here (l : Launch) (μ : zM) {a : aT} {v : vT} (hW : rWor a v μ) :
    zC l y_R_here b_R_here 1 (some .int) [] 1 0 22 false [zp 51] μ (zRi (fun r μ' => aHere v (μ' 51 0) r ∧ rWor a v μ' ∧ ∀ q, (q < 51 ∨ q = 76) → μ' q = μ q)) := by
  refine zC.of (own := n_R) (L := [some (zp 51)]) (by decide) rfl (by simp [zcat]) (Nat.le_of_ble_eq_true rfl) rfl (fun Γ => ?_)
  have h18 := rWor_18 hW
  have ha := hW.1
  have hN4 := ha.1
  have h51 := hW.2.1.1
  refine zU_aload_n d_R_here_0 rfl ?_
  refine zU_aload_n d_R_here_1 rfl ?_
  refine zU_getI (v := (vM v : Int)) d_R_here_2 f_R_91 (by decide) rfl rfl (h18.1) ?_
  have hJ13 : zU Γ b_R_here n_R 1 (some .int) [] (zRm 1 0 22) 0 0 (zFin Γ 0 false (zRi (fun r μ' => aHere v (μ' 51 0) r ∧ rWor a v μ' ∧ ∀ q, (q < 51 ∨ q = 76) → μ' q = μ q))) true 0 μ 13 [some (zp 51)] [zi (zB (decide (vM v = 0))), zp 51] := by
    refine zU_iconst d_R_here_13 ?_
    refine zU_callVi (p0 := 51) [zi (zB (decide (vM v = 0))), zi 0] d_R_here_14 k_R_101 rfl (by decide) rfl rfl (by decide) (Nat.le_of_ble_eq_true rfl) (fun l => m_R_throwing l μ (p := decide (vM v = 0)) (q := false)) (fun r14 μ14 h14 => ?_)
    obtain ⟨hr14, hμ14⟩ := h14
    subst hr14
    have hW3 : rWor a v μ14 := by rw [hμ14]; exact rWor_thr hW _
    have hq3 := thr_q hμ14
    have ht3 := thr_0 hμ14
    refine zU_if_eq 24 d_R_here_17 (by decide) (zBr _) (fun h17 => ?_) (fun h17 => ?_)
    · have b17 := zB_zero.mp h17
      obtain ⟨hc0, hn0⟩ := tcd_1f b17
      obtain ⟨N, K, M, p, k0, hv, hvM, hs, hO, hG, hB, hT, hl, hp, hpk, hkN0, h28⟩ := rWor_get hW3 hn0
      have hN := hs.2.1.2
      have hMN := hs.2.2.2.2.2.1
      refine zU_aload_n d_R_here_24 rfl ?_
      refine zU_getR 68 d_R_here_25 f_R_59 (by decide) rfl rfl rfl ?_
      refine zU_aload_n d_R_here_28 rfl ?_
      refine zU_getI (v := (k0 : Int)) d_R_here_29 f_R_151 (by decide) rfl rfl (h28) ?_
      refine zU_iald (v := ((p + 1 : Nat) : Int)) d_R_here_32 (by decide) rfl (by decide) (by omega) ((hO.2.2.1 p k0 hpk).2.1) ?_
      exact zU_ireturn d_R_here_33 (Or.inl rfl) (by decide) (by decide) (⟨_, rfl, by rw [ht3, hc0]; exact Or.inl ⟨rfl, N, K, M, p, hv, hp, rfl⟩, hW3, hq3⟩)
    · have b17 := zB_nz.mp h17
      refine zU_iconst d_R_here_20 ?_
      refine zU_goto 33 d_R_here_21 (by decide) ?_
      exact zU_ireturn d_R_here_33 (Or.inl rfl) (by decide) (by decide) (⟨_, rfl, by rw [ht3]; exact Or.inr (tcd_1t b17), hW3, hq3⟩)
  refine zU_if_ne 12 d_R_here_5 (by decide) (by omega) (fun h5 => ?_) (fun h5 => ?_)
  · refine zU_iconst d_R_here_12 ?_
    refine zU.eqS (st' := [zi (zB (decide (vM v = 0))), zp 51]) (congrArg (fun zz : Int => [zi zz, zp 51]) (show (0 : Int) = zB (decide (vM v = 0)) from (zBf (by simp [show vM v ≠ 0 by omega])).symm)) ?_
    exact hJ13 
  · refine zU_iconst d_R_here_8 ?_
    refine zU_goto 13 d_R_here_9 (by decide) ?_
    refine zU.eqS (st' := [zi (zB (decide (vM v = 0))), zp 51]) (congrArg (fun zz : Int => [zi zz, zp 51]) (show (1 : Int) = zB (decide (vM v = 0)) from (zBt (by simp [show vM v = 0 by omega])).symm)) ?_
    exact hJ13 
set_option maxRecDepth 100000 in
set_option maxHeartbeats 4000000 in
theorem m_R_allowed (l : Launch) (μ : zM) {a : aT} {v : vT} (hW : rWor a v μ) :
    zC l y_R_allowed b_R_allowed 3 (some .int) [] 1 0 24 false [zp 51] μ (zRi (fun r μ' => aAllow a v (μ' 51 0) r ∧ rWor a v μ' ∧ ∀ q, (q < 51 ∨ q = 76) → μ' q = μ q)) := by
  refine zC.of (own := n_R) (L := [some (zp 51), none, none]) (by decide) rfl (by simp [zcat]) (Nat.le_of_ble_eq_true rfl) rfl (fun Γ => ?_)
  have h18 := rWor_18 hW
  have ha := hW.1
  have hN4 := ha.1
  have h51 := hW.2.1.1
  refine zU_aload_n d_R_allowed_0 rfl ?_
  refine zU_aload_n d_R_allowed_1 rfl ?_
  refine zU_getI (v := (vM v : Int)) d_R_allowed_2 f_R_91 (by decide) rfl rfl (h18.1) ?_
  have hJ13 : zU Γ b_R_allowed n_R 3 (some .int) [] (zRm 1 0 24) 0 0 (zFin Γ 0 false (zRi (fun r μ' => aAllow a v (μ' 51 0) r ∧ rWor a v μ' ∧ ∀ q, (q < 51 ∨ q = 76) → μ' q = μ q))) true 0 μ 13 [some (zp 51), none, none] [zi (zB (decide (vM v = 0))), zp 51] := by
    refine zU_iconst d_R_allowed_13 ?_
    refine zU_callVi (p0 := 51) [zi (zB (decide (vM v = 0))), zi 0] d_R_allowed_14 k_R_101 rfl (by decide) rfl rfl (by decide) (Nat.le_of_ble_eq_true rfl) (fun l => m_R_throwing l μ (p := decide (vM v = 0)) (q := false)) (fun r14 μ14 h14 => ?_)
    obtain ⟨hr14, hμ14⟩ := h14
    subst hr14
    have hW3 : rWor a v μ14 := by rw [hμ14]; exact rWor_thr hW _
    have hq3 := thr_q hμ14
    have ht3 := thr_0 hμ14
    refine zU_if_eq 22 d_R_allowed_17 (by decide) (zBr _) (fun h17 => ?_) (fun h17 => ?_)
    · have b17 := zB_zero.mp h17
      obtain ⟨hc0, hn0⟩ := tcd_1f b17
      obtain ⟨N, K, M, p, k0, hv, hvM, hs, hO, hG, hB, hT, hl, hp, hpk, hkN0, h28⟩ := rWor_get hW3 hn0
      have hN := hs.2.1.2
      refine zU_iconst d_R_allowed_22 ?_
      refine zU_istore_n d_R_allowed_23 (by decide) ?_
      refine zU.eqL (L' := [some (zp 51), some (zi 0), none]) rfl ?_
      refine zU_iconst d_R_allowed_24 ?_
      refine zU_istore_n d_R_allowed_25 (by decide) ?_
      refine zU.eqL (L' := [some (zp 51), some (zi 0), some (zi 0)]) rfl ?_
      have hJ26 : ∀ (d : Nat) (e : Nat), e + d = 12 → zU Γ b_R_allowed n_R 3 (some .int) [] (zRm 1 0 24) 0 0 (zFin Γ 0 false (zRi (fun r μ' => aAllow a v (μ' 51 0) r ∧ rWor a v μ' ∧ ∀ q, (q < 51 ∨ q = 76) → μ' q = μ q))) false 0 μ14 26 [some (zp 51), some (zi ((bsum (fun e => decide (ktg (gtg (eg a N)) K k0 e ≠ 0)) e : Nat) : Int)), some (zi (e : Int))] [] := by
        intro d
        induction d using Nat.strongRecOn with
        | _ d ih26 =>
          intro e hd
          refine zU_iload_n d_R_allowed_26 rfl ?_
          refine zU_bipush d_R_allowed_27 (by decide) ?_
          refine zU_icmp_ge 61 d_R_allowed_29 (by decide) (by omega) (by omega) (fun h29 => ?_) (fun h29 => ?_)
          · refine zU_iload_n d_R_allowed_61 rfl ?_
            exact zU_ireturn d_R_allowed_62 (Or.inl rfl) (by decide) (by decide) (⟨_, rfl, by rw [ht3, hc0]; have h8 : e = 12 := (by omega); rw [h8]; exact Or.inl ⟨rfl, N, K, M, p, k0, hv, hp, hpk, rfl⟩, hW3, hq3⟩)
          · have he : e < 12 := by omega
            have hKl : ktg (gtg (eg a N)) K k0 e ≤ N := ktg_leN (gtg_le hs.1 hkN0 he)
            refine zU_aload_n d_R_allowed_32 rfl ?_
            refine zU_iconst d_R_allowed_33 ?_
            refine zU_aload_n d_R_allowed_34 rfl ?_
            refine zU_getI (v := (k0 : Int)) d_R_allowed_35 f_R_151 (by decide) rfl rfl (h28) ?_
            refine zU_iload_n d_R_allowed_38 rfl ?_
            refine zU_callVi (p0 := 51) [zi 0, zi ((k0 : Int)), zi (e : Int)] d_R_allowed_39 k_R_135 rfl (by decide) rfl rfl (by decide) (Nat.le_of_ble_eq_true rfl) (fun l => m_R_good l μ14 (B := sC a) (w := 0) (by omega) hT hB (k := k0) (e := e) hkN0 he) (fun r39 μ39 h39 => ?_)
            obtain ⟨hμ39, rfl⟩ := h39
            replace hμ39 := hμ39.symm
            subst hμ39
            have hJ54 : zU Γ b_R_allowed n_R 3 (some .int) [] (zRm 1 0 24) 0 0 (zFin Γ 0 false (zRi (fun r μ' => aAllow a v (μ' 51 0) r ∧ rWor a v μ' ∧ ∀ q, (q < 51 ∨ q = 76) → μ' q = μ q))) false 0 μ14 54 [some (zp 51), some (zi ((bsum (fun e => decide (ktg (gtg (eg a N)) K k0 e ≠ 0)) e : Nat) : Int)), some (zi (e : Int))] [zi ((bsum (fun e => decide (ktg (gtg (eg a N)) K k0 e ≠ 0)) (e + 1) : Nat) : Int)] := by
              refine zU_istore_n d_R_allowed_54 (by decide) ?_
              refine zU.eqL (L' := [some (zp 51), some (zi ((bsum (fun e => decide (ktg (gtg (eg a N)) K k0 e ≠ 0)) (e + 1) : Nat) : Int)), some (zi (e : Int))]) rfl ?_
              refine zU_iinc d_R_allowed_55 rfl ?_
              refine zU.eqL (L' := [some (zp 51), some (zi ((bsum (fun e => decide (ktg (gtg (eg a N)) K k0 e ≠ 0)) (e + 1) : Nat) : Int)), some (zi (((e + 1 : Nat) : Int)))]) (by first | rfl | exact congrArg (fun zz : Int => [some (zp 51), some (zi ((bsum (fun e => decide (ktg (gtg (eg a N)) K k0 e ≠ 0)) (e + 1) : Nat) : Int)), some (zi zz)]) (show ((e : Int) + 1 : Int) = ((e + 1 : Nat) : Int) by omega)) ?_
              refine zU_goto 26 d_R_allowed_58 (by decide) ?_
              exact ih26 (d - 1) (by omega) (e + 1) (by omega)
            refine zU_if_lt 53 d_R_allowed_42 (by decide) (by omega) (fun h42 => ?_) (fun h42 => ?_)
            · refine zU_iload_n d_R_allowed_53 rfl ?_
              refine zU.eqS (st' := [zi ((bsum (fun e => decide (ktg (gtg (eg a N)) K k0 e ≠ 0)) (e + 1) : Nat) : Int)]) (congrArg (fun zz : Int => [zi zz]) (show ((bsum (fun e => decide (ktg (gtg (eg a N)) K k0 e ≠ 0)) e : Nat) : Int) = ((bsum (fun e => decide (ktg (gtg (eg a N)) K k0 e ≠ 0)) (e + 1) : Nat) : Int) by rw [show bsum (fun e => decide (ktg (gtg (eg a N)) K k0 e ≠ 0)) (e + 1) = bsum (fun e => decide (ktg (gtg (eg a N)) K k0 e ≠ 0)) e by simp [bsum]; omega])) ?_
              exact hJ54 
            · refine zU_iload_n d_R_allowed_45 rfl ?_
              refine zU_iconst d_R_allowed_46 ?_
              refine zU_iload_n d_R_allowed_47 rfl ?_
              refine zU_ishl d_R_allowed_48 ?_
              refine zU_iadd d_R_allowed_49 ?_
              refine zU_goto 54 d_R_allowed_50 (by decide) ?_
              refine zU.eqS (st' := [zi ((bsum (fun e => decide (ktg (gtg (eg a N)) K k0 e ≠ 0)) (e + 1) : Nat) : Int)]) (congrArg (fun zz : Int => [zi zz]) (show ((bsum (fun e => decide (ktg (gtg (eg a N)) K k0 e ≠ 0)) e : Nat) : Int) + (zshl 1 (e : Int)) = ((bsum (fun e => decide (ktg (gtg (eg a N)) K k0 e ≠ 0)) (e + 1) : Nat) : Int) by rw [zshl_one he, show bsum (fun e => decide (ktg (gtg (eg a N)) K k0 e ≠ 0)) (e + 1) = bsum (fun e => decide (ktg (gtg (eg a N)) K k0 e ≠ 0)) e + 2 ^ e by simp [bsum]; omega]; omega)) ?_
              exact hJ54 
      exact hJ26 12 0 (by omega)
    · have b17 := zB_nz.mp h17
      refine zU_iconst d_R_allowed_20 ?_
      exact zU_ireturn d_R_allowed_21 (Or.inl rfl) (by decide) (by decide) (⟨_, rfl, by rw [ht3]; exact Or.inr (tcd_1t b17), hW3, hq3⟩)
  refine zU_if_ne 12 d_R_allowed_5 (by decide) (by omega) (fun h5 => ?_) (fun h5 => ?_)
  · refine zU_iconst d_R_allowed_12 ?_
    refine zU.eqS (st' := [zi (zB (decide (vM v = 0))), zp 51]) (congrArg (fun zz : Int => [zi zz, zp 51]) (show (0 : Int) = zB (decide (vM v = 0)) from (zBf (by simp [show vM v ≠ 0 by omega])).symm)) ?_
    exact hJ13 
  · refine zU_iconst d_R_allowed_8 ?_
    refine zU_goto 13 d_R_allowed_9 (by decide) ?_
    refine zU.eqS (st' := [zi (zB (decide (vM v = 0))), zp 51]) (congrArg (fun zz : Int => [zi zz, zp 51]) (show (1 : Int) = zB (decide (vM v = 0)) from (zBt (by simp [show vM v = 0 by omega])).symm)) ?_
    exact hJ13 
set_option maxRecDepth 100000 in
set_option maxHeartbeats 4000000 in
theorem m_R_home (l : Launch) (μ : zM) {a : aT} {v : vT} (hW : rWor a v μ) :
    zC l y_R_home b_R_home 1 (some .int) [] 2 0 51 false [zp 51] μ (zRi (fun r μ' => aHome a v (μ' 51 0) r ∧ rWor a v μ' ∧ ∀ q, (q < 51 ∨ q = 76) → μ' q = μ q)) := by
  refine zC.of (own := n_R) (L := [some (zp 51)]) (by decide) rfl (by simp [zcat]) (Nat.le_of_ble_eq_true rfl) rfl (fun Γ => ?_)
  have h18 := rWor_18 hW
  have ha := hW.1
  have hN4 := ha.1
  have h51 := hW.2.1.1
  refine zU_aload_n d_R_home_0 rfl ?_
  refine zU_aload_n d_R_home_1 rfl ?_
  refine zU_getI (v := (vM v : Int)) d_R_home_2 f_R_91 (by decide) rfl rfl (h18.1) ?_
  have hJ13 : zU Γ b_R_home n_R 1 (some .int) [] (zRm 2 0 51) 0 0 (zFin Γ 0 false (zRi (fun r μ' => aHome a v (μ' 51 0) r ∧ rWor a v μ' ∧ ∀ q, (q < 51 ∨ q = 76) → μ' q = μ q))) true 0 μ 13 [some (zp 51)] [zi (zB (decide (vM v = 0))), zp 51] := by
    refine zU_iconst d_R_home_13 ?_
    refine zU_callVi (p0 := 51) [zi (zB (decide (vM v = 0))), zi 0] d_R_home_14 k_R_101 rfl (by decide) rfl rfl (by decide) (Nat.le_of_ble_eq_true rfl) (fun l => m_R_throwing l μ (p := decide (vM v = 0)) (q := false)) (fun r14 μ14 h14 => ?_)
    obtain ⟨hr14, hμ14⟩ := h14
    subst hr14
    have hW3 : rWor a v μ14 := by rw [hμ14]; exact rWor_thr hW _
    have hq3 := thr_q hμ14
    have ht3 := thr_0 hμ14
    refine zU_if_eq 24 d_R_home_17 (by decide) (zBr _) (fun h17 => ?_) (fun h17 => ?_)
    · have b17 := zB_zero.mp h17
      obtain ⟨hc0, hn0⟩ := tcd_1f b17
      obtain ⟨N, K, M, p, k0, hv, hvM, hs, hO, hG, hB, hT, hl, hp, hpk, hkN0, h28⟩ := rWor_get hW3 hn0
      have hN := hs.2.1.2
      refine zU_aload_n d_R_home_24 rfl ?_
      refine zU_aload_n d_R_home_25 rfl ?_
      refine zU_getI (v := (k0 : Int)) d_R_home_26 f_R_151 (by decide) rfl rfl (h28) ?_
      refine zU_iconst d_R_home_29 ?_
      refine zU_callVi (p0 := 51) [zi ((k0 : Int)), zi 0] d_R_home_30 k_R_154 rfl (by decide) rfl rfl (by decide) (Nat.le_of_ble_eq_true rfl) (fun l => m_R_search l μ14 hT hB (f := k0) hkN0 (lb := false)) (fun r30 μ30 h30 => ?_)
      obtain ⟨h30a, h30f⟩ := h30
      have hK0 : K k0 = true := oAt_kept _ _ _ k0 (List.mem_of_getElem? hpk)
      have hmd : mDist (gtg (eg a N)) K (sG a (aMem a none) (eg a N)) k0 r30 := by
        rcases h30a with ⟨i9, x9, b1, b2, b3, b4, b5, b6, b7, b8⟩ | ⟨b1, i9, b2, b3, b4, b5⟩
        · rw [bT_false, ← nxK_T] at b1 b2 b3 b5 b6
          rw [b6]
          exact bHome_yes hK0 b3 (fun j hj => b1 j (by omega)) (fun j x hj hx => by simpa [bS] using b5 j x hj hx) b2 (by simpa [bS] using b4)
        · rw [bT_false, ← nxK_T] at b2 b3 b5
          rw [b1]
          exact bHome_no (i := i9) (by omega) b2 (fun j x hj hx => by simpa [bS] using b5 j x hj hx) (by omega)
      have hrr := mDist_r hmd
      have hW9 : rWor a v μ30 := rWor_fr hW3 (fun x hx => h30f.2 x (by unfold r51 at hx; omega)) (fun q h1 h2 => h30f.1 q (by omega) (by omega)) (fun q x h1 h2 _ => by rw [h30f.1 q (by omega) (by omega)]) (h30f.1 67 (by decide) (by decide)) (h30f.1 68 (by decide) (by decide)) (h30f.1 73 (by decide) (by decide))
      exact zU_ireturn d_R_home_33 (Or.inl rfl) (by decide) (by decide) (⟨_, rfl, by rw [h30f.2 0 (by decide), ht3, hc0]; exact Or.inl ⟨rfl, N, K, M, p, k0, hv, hp, hpk, hmd⟩, hW9, fun q hq => by rw [h30f.1 q (by omega) (by omega)]; exact hq3 q hq⟩)
    · have b17 := zB_nz.mp h17
      refine zU_iconst d_R_home_20 ?_
      refine zU_goto 33 d_R_home_21 (by decide) ?_
      exact zU_ireturn d_R_home_33 (Or.inl rfl) (by decide) (by decide) (⟨_, rfl, by rw [ht3]; exact Or.inr (tcd_1t b17), hW3, hq3⟩)
  refine zU_if_ne 12 d_R_home_5 (by decide) (by omega) (fun h5 => ?_) (fun h5 => ?_)
  · refine zU_iconst d_R_home_12 ?_
    refine zU.eqS (st' := [zi (zB (decide (vM v = 0))), zp 51]) (congrArg (fun zz : Int => [zi zz, zp 51]) (show (0 : Int) = zB (decide (vM v = 0)) from (zBf (by simp [show vM v ≠ 0 by omega])).symm)) ?_
    exact hJ13 
  · refine zU_iconst d_R_home_8 ?_
    refine zU_goto 13 d_R_home_9 (by decide) ?_
    refine zU.eqS (st' := [zi (zB (decide (vM v = 0))), zp 51]) (congrArg (fun zz : Int => [zi zz, zp 51]) (show (1 : Int) = zB (decide (vM v = 0)) from (zBt (by simp [show vM v = 0 by omega])).symm)) ?_
    exact hJ13 
