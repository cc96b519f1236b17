theorem andq_t {n : Nat} {D : Prop} [Decidable D] (h : n ≠ 0) (hd : ¬ D) : (decide (n ≠ 0) && !decide D) = true := by simp [h, hd]
theorem andq_0 {n : Nat} {D : Prop} [Decidable D] (h : n = 0) : (decide (n ≠ 0) && !decide D) = false := by simp [h]
theorem andq_f {n : Nat} {D : Prop} [Decidable D] (hd : D) : (decide (n ≠ 0) && !decide D) = false := by simp [hd]
theorem tcd_t {n : Nat} {D : Prop} [Decidable D] (h : (decide (n = 0) || (decide (n ≠ 0) && !decide D)) = true) : (tcd (decide (n = 0)) (decide (n ≠ 0) && !decide D) = 1 ∧ n = 0) ∨ (tcd (decide (n = 0)) (decide (n ≠ 0) && !decide D) = 2 ∧ n ≠ 0 ∧ ¬ D) := by
  by_cases h1 : n = 0
  · exact Or.inl ⟨by simp [tcd, h1], h1⟩
  · by_cases h2 : D
    · simp [h1, h2] at h
    · exact Or.inr ⟨by simp [tcd, h1, h2], h1, h2⟩
theorem tcd_f {n : Nat} {D : Prop} [Decidable D] (h : (decide (n = 0) || (decide (n ≠ 0) && !decide D)) = false) : tcd (decide (n = 0)) (decide (n ≠ 0) && !decide D) = 0 ∧ n ≠ 0 ∧ D := by
  by_cases h1 : n = 0
  · simp [h1] at h
  · by_cases h2 : D
    · exact ⟨by simp [tcd, h1, h2], h1, h2⟩
    · simp [h1, h2] at h
theorem tcd_1t {n : Nat} (h : (decide (n = 0) || false) = true) : tcd (decide (n = 0)) false = 1 ∧ n = 0 := by
  by_cases h1 : n = 0
  · exact ⟨by simp [tcd, h1], h1⟩
  · simp [h1] at h
theorem tcd_1f {n : Nat} (h : (decide (n = 0) || false) = false) : tcd (decide (n = 0)) false = 0 ∧ n ≠ 0 := by
  by_cases h1 : n = 0
  · simp [h1] at h
  · exact ⟨by simp [tcd, h1], h1⟩
theorem rWor_get2 {a : aT} {v : vT} {μ : zM} (h : rWor a v μ) (hv : v ≠ none) : ∃ N K M p, v = some (N, K, M, p) ∧ sMath a (aMem a none) N K M ∧ rT N (gtg (eg a N)) (sU a (eg a N)) (sC a) (sG a (aMem a none) (eg a N)) 0 μ ∧ rBd 0 N K μ ∧ sWl (eg a N) K (μ 51 26) ∧ rWd a N K μ ∧ (eg a N).1.length = N := by
  rcases h.2.2 with ⟨h1, h2⟩ | ⟨N, K, M, p, h1, h2, h3, h4, h5, h6, h7, h8, h9⟩
  · exact absurd h1 hv
  · exact ⟨N, K, M, p, h1, h2, rGr_T h.1 h.2.1 h2.1 h2.2.1.2 h5, h6, h7, h8, h2.1.1⟩
theorem sWl_r {g : gT} {K : Nat → Bool} {v : Int} (h : sWl g K v) : -1 ≤ v ∧ v ≤ 200 := by
  rcases h with ⟨h1, _⟩ | ⟨k, _, _, _, h4⟩
  · omega
  · have := wB_len (fb g) 200 k
    omega
theorem rWor_here {a : aT} {N : Nat} {K : Nat → Bool} {M p p' k' : Nat} {μ : zM} (h : rWor a (some (N, K, M, p)) μ) (hp : p' < M) (hk : (eO a N K M)[p']? = some k') : rWor a (some (N, K, M, p')) (zup μ 51 28 (k' : Int)) := by
  refine ⟨h.1, rRep_congr h.2.1 (by rw [zup_at, if_neg (by omega)]) (fun q h1 h2 => zup_ne _ _ _ (by omega)), ?_⟩
  rcases h.2.2 with ⟨h1, h2⟩ | ⟨N', K', M', p'', h1, h2, h3, h4, h5, h6, h7, h8, h9⟩
  · cases h1
  · cases h1
    refine Or.inr ⟨N, K, M, p', rfl, h2, by rw [zup_at, if_neg (by omega)]; exact h3, rO_congr h4 (by rw [zup_at, if_neg (by omega)]) (zup_ne _ _ _ (by decide)) (zup_ne _ _ _ (by decide)), rGr_fr h5 h2.2.1.2 (fun q x q1 q2 _ => by rw [zup_ne _ _ _ (by omega)]), rBd_q h6 (zup_ne _ _ _ (by decide)), by rw [zup_at, if_neg (by omega)]; exact h7, by unfold rWd; rw [zup_ne _ _ _ (by decide)]; exact h8, fun _ => ⟨hp, k', hk, by rw [zup_at]; simp⟩⟩
theorem ktg_leN {N : Nat} {tg : Nat → Nat → Nat} {K : Nat → Bool} {k e : Nat} (h : tg k e ≤ N) : ktg tg K k e ≤ N := by
  unfold ktg
  split
  · exact h
  · omega
theorem thr_q {μ μ' : zM} {t : Int} (h : μ' = zup μ 51 0 t) : ∀ q, (q < 51 ∨ q = 76) → μ' q = μ q := fun q hq => by rw [h, zup_ne _ _ _ (by omega)]
theorem thr_0 {μ μ' : zM} {t : Int} (h : μ' = zup μ 51 0 t) : μ' 51 0 = t := by rw [h, zup_at]; simp
theorem wB_12 (f : Nat → Nat) : ∀ d k, ∀ y ∈ wB f d k, y < 12
  | 0, k, y, h => by simp [wB] at h
  | d + 1, k, y, h => by
    simp only [wB] at h
    split at h
    · simp at h
    · rcases List.mem_cons.mp h with h | h
      · rw [h]; exact Nat.mod_lt _ (by decide)
      · exact wB_12 f d _ y h
set_option maxRecDepth 100000 in
set_option maxHeartbeats 4000000 in
theorem m_R_refuses (l : Launch) (μ : zM) {a : aT} {v : vT} (hW : rWor a v μ) {x : Int} (hx : -2147483648 ≤ x ∧ x ≤ 2147483647) {y : Int} (hy : -2147483648 ≤ y ∧ y ≤ 2147483647) :
    zC l y_R_refuses b_R_refuses 3 (some .boolean) [] 1 0 22 false [zp 51, zi x, zi y] μ (zRi (fun r μ' => r = zB (decide (vM v = 0) || (decide (vM v ≠ 0) && !decide ((1 ≤ x ∧ x ≤ (vM v : Int)) ∧ 0 ≤ y ∧ y < 12))) ∧ μ' = zup μ 51 0 (tcd (decide (vM v = 0)) (decide (vM v ≠ 0) && !decide ((1 ≤ x ∧ x ≤ (vM v : Int)) ∧ 0 ≤ y ∧ y < 12))))) := by
  refine zC.of (own := n_R) (L := [some (zp 51), some (zi x), some (zi y)]) (by decide) rfl (by simp [zcat]) (Nat.le_of_ble_eq_true rfl) rfl (fun Γ => ?_)
  have h18 := rWor_18 hW
  have ha := hW.1
  have hN4 := ha.1
  have h51 := hW.2.1.1
  refine zU_aload_n d_R_refuses_0 rfl ?_
  refine zU_aload_n d_R_refuses_1 rfl ?_
  refine zU_getI (v := (vM v : Int)) d_R_refuses_2 f_R_91 (by decide) rfl rfl (h18.1) ?_
  have hJ13 : zU Γ b_R_refuses n_R 3 (some .boolean) [] (zRm 1 0 22) 0 0 (zFin Γ 0 false (zRi (fun r μ' => r = zB (decide (vM v = 0) || (decide (vM v ≠ 0) && !decide ((1 ≤ x ∧ x ≤ (vM v : Int)) ∧ 0 ≤ y ∧ y < 12))) ∧ μ' = zup μ 51 0 (tcd (decide (vM v = 0)) (decide (vM v ≠ 0) && !decide ((1 ≤ x ∧ x ≤ (vM v : Int)) ∧ 0 ≤ y ∧ y < 12)))))) true 0 μ 13 [some (zp 51), some (zi x), some (zi y)] [zi (zB (decide (vM v = 0))), zp 51] := by
    refine zU_aload_n d_R_refuses_13 rfl ?_
    refine zU_getI (v := (vM v : Int)) d_R_refuses_14 f_R_91 (by decide) rfl rfl (h18.1) ?_
    have hJ47 : zU Γ b_R_refuses n_R 3 (some .boolean) [] (zRm 1 0 22) 0 0 (zFin Γ 0 false (zRi (fun r μ' => r = zB (decide (vM v = 0) || (decide (vM v ≠ 0) && !decide ((1 ≤ x ∧ x ≤ (vM v : Int)) ∧ 0 ≤ y ∧ y < 12))) ∧ μ' = zup μ 51 0 (tcd (decide (vM v = 0)) (decide (vM v ≠ 0) && !decide ((1 ≤ x ∧ x ≤ (vM v : Int)) ∧ 0 ≤ y ∧ y < 12)))))) true 0 μ 47 [some (zp 51), some (zi x), some (zi y)] [zi (zB (decide (vM v ≠ 0) && !decide ((1 ≤ x ∧ x ≤ (vM v : Int)) ∧ 0 ≤ y ∧ y < 12))), zi (zB (decide (vM v = 0))), zp 51] := by
      refine zU_callVi (p0 := 51) [zi (zB (decide (vM v = 0))), zi (zB (decide (vM v ≠ 0) && !decide ((1 ≤ x ∧ x ≤ (vM v : Int)) ∧ 0 ≤ y ∧ y < 12)))] d_R_refuses_47 k_R_101 rfl (by decide) rfl rfl (by decide) (Nat.le_of_ble_eq_true rfl) (fun l => m_R_throwing l μ (p := decide (vM v = 0)) (q := decide (vM v ≠ 0) && !decide ((1 ≤ x ∧ x ≤ (vM v : Int)) ∧ 0 ≤ y ∧ y < 12))) (fun r47 μ47 h47 => ?_)
      obtain ⟨hr47, hμ47⟩ := h47
      subst hr47
      exact zU_ireturn d_R_refuses_50 (Or.inr ⟨rfl, zB_or _⟩) (by decide) (by decide) (⟨_, rfl, rfl, hμ47⟩)
    refine zU_if_le 46 d_R_refuses_17 (by decide) (by omega) (fun h17 => ?_) (fun h17 => ?_)
    · refine zU_iconst d_R_refuses_46 ?_
      refine zU.eqS (st' := [zi (zB (decide (vM v ≠ 0) && !decide ((1 ≤ x ∧ x ≤ (vM v : Int)) ∧ 0 ≤ y ∧ y < 12))), zi (zB (decide (vM v = 0))), zp 51]) (congrArg (fun zz : Int => [zi zz, zi (zB (decide (vM v = 0))), zp 51]) (show (0 : Int) = zB (decide (vM v ≠ 0) && !decide ((1 ≤ x ∧ x ≤ (vM v : Int)) ∧ 0 ≤ y ∧ y < 12)) from (zBf (andq_0 (by omega))).symm)) ?_
      exact hJ47 
    · refine zU_iload_n d_R_refuses_20 rfl ?_
      refine zU_bipush d_R_refuses_21 (by decide) ?_
      refine zU_callSi [zi y, zi 12] d_R_refuses_23 k_R_94 rfl (by decide) (Nat.le_of_ble_eq_true rfl) (fun l => m_R_out l μ hy (by omega)) (fun r23 μ23 h23 => ?_)
      obtain ⟨hμ23, rfl⟩ := h23
      replace hμ23 := hμ23.symm
      subst hμ23
      refine zU_if_ne 42 d_R_refuses_26 (by decide) (zBr _) (fun h26 => ?_) (fun h26 => ?_)
      · have b26 := zB_nz.mp h26
        refine zU_iconst d_R_refuses_42 ?_
        refine zU_goto 47 d_R_refuses_43 (by decide) ?_
        refine zU.eqS (st' := [zi (zB (decide (vM v ≠ 0) && !decide ((1 ≤ x ∧ x ≤ (vM v : Int)) ∧ 0 ≤ y ∧ y < 12))), zi (zB (decide (vM v = 0))), zp 51]) (congrArg (fun zz : Int => [zi zz, zi (zB (decide (vM v = 0))), zp 51]) (show (1 : Int) = zB (decide (vM v ≠ 0) && !decide ((1 ≤ x ∧ x ≤ (vM v : Int)) ∧ 0 ≤ y ∧ y < 12)) from (zBt (andq_t (by omega) (fun h9 => nd_t b26 h9.2))).symm)) ?_
        exact hJ47 
      · have b26 := zB_zero.mp h26
        refine zU_iload_n d_R_refuses_29 rfl ?_
        refine zU_iconst d_R_refuses_30 ?_
        refine zU_icmp_lt 42 d_R_refuses_31 (by decide) (by omega) (by omega) (fun h31 => ?_) (fun h31 => ?_)
        · refine zU_iconst d_R_refuses_42 ?_
          refine zU_goto 47 d_R_refuses_43 (by decide) ?_
          refine zU.eqS (st' := [zi (zB (decide (vM v ≠ 0) && !decide ((1 ≤ x ∧ x ≤ (vM v : Int)) ∧ 0 ≤ y ∧ y < 12))), zi (zB (decide (vM v = 0))), zp 51]) (congrArg (fun zz : Int => [zi zz, zi (zB (decide (vM v = 0))), zp 51]) (show (1 : Int) = zB (decide (vM v ≠ 0) && !decide ((1 ≤ x ∧ x ≤ (vM v : Int)) ∧ 0 ≤ y ∧ y < 12)) from (zBt (andq_t (by omega) (fun h9 => by omega))).symm)) ?_
          exact hJ47 
        · refine zU_iload_n d_R_refuses_34 rfl ?_
          refine zU_aload_n d_R_refuses_35 rfl ?_
          refine zU_getI (v := (vM v : Int)) d_R_refuses_36 f_R_91 (by decide) rfl rfl (h18.1) ?_
          refine zU_icmp_le 46 d_R_refuses_39 (by decide) (by omega) (by omega) (fun h39 => ?_) (fun h39 => ?_)
          · refine zU_iconst d_R_refuses_46 ?_
            refine zU.eqS (st' := [zi (zB (decide (vM v ≠ 0) && !decide ((1 ≤ x ∧ x ≤ (vM v : Int)) ∧ 0 ≤ y ∧ y < 12))), zi (zB (decide (vM v = 0))), zp 51]) (congrArg (fun zz : Int => [zi zz, zi (zB (decide (vM v = 0))), zp 51]) (show (0 : Int) = zB (decide (vM v ≠ 0) && !decide ((1 ≤ x ∧ x ≤ (vM v : Int)) ∧ 0 ≤ y ∧ y < 12)) from (zBf (andq_f ⟨⟨by omega, by omega⟩, nd_f b26⟩)).symm)) ?_
            exact hJ47 
          · refine zU_iconst d_R_refuses_42 ?_
            refine zU_goto 47 d_R_refuses_43 (by decide) ?_
            refine zU.eqS (st' := [zi (zB (decide (vM v ≠ 0) && !decide ((1 ≤ x ∧ x ≤ (vM v : Int)) ∧ 0 ≤ y ∧ y < 12))), zi (zB (decide (vM v = 0))), zp 51]) (congrArg (fun zz : Int => [zi zz, zi (zB (decide (vM v = 0))), zp 51]) (show (1 : Int) = zB (decide (vM v ≠ 0) && !decide ((1 ≤ x ∧ x ≤ (vM v : Int)) ∧ 0 ≤ y ∧ y < 12)) from (zBt (andq_t (by omega) (fun h9 => by omega))).symm)) ?_
            exact hJ47 
  refine zU_if_ne 12 d_R_refuses_5 (by decide) (by omega) (fun h5 => ?_) (fun h5 => ?_)
  · refine zU_iconst d_R_refuses_12 ?_
    refine zU.eqS (st' := [zi (zB (decide (vM v = 0))), zp 51]) (congrArg (fun zz : Int => [zi zz, zp 51]) (show (0 : Int) = zB (decide (vM v = 0)) from (zBf (by simp [show vM v ≠ 0 by omega])).symm)) ?_
    exact hJ13 
  · refine zU_iconst d_R_refuses_8 ?_
    refine zU_goto 13 d_R_refuses_9 (by decide) ?_
    refine zU.eqS (st' := [zi (zB (decide (vM v = 0))), zp 51]) (congrArg (fun zz : Int => [zi zz, zp 51]) (show (1 : Int) = zB (decide (vM v = 0)) from (zBt (by simp [show vM v = 0 by omega])).symm)) ?_
    exact hJ13 
set_option maxRecDepth 100000 in
set_option maxHeartbeats 4000000 in
theorem m_R_says (l : Launch) (μ : zM) {a : aT} {v : vT} (hW : rWor a v μ) {x : Int} (hx : -2147483648 ≤ x ∧ x ≤ 2147483647) {y : Int} (hy : -2147483648 ≤ y ∧ y ≤ 2147483647) :
    zC l y_R_says b_R_says 4 (some .int) [] 2 0 44 false [zp 51, zi x, zi y] μ (zRi (fun r μ' => aSays a v x y (μ' 51 0) r ∧ rWor a v μ' ∧ ∀ q, (q < 51 ∨ q = 76) → μ' q = μ q)) := by
  refine zC.of (own := n_R) (L := [some (zp 51), some (zi x), some (zi y), none]) (by decide) rfl (by simp [zcat]) (Nat.le_of_ble_eq_true rfl) rfl (fun Γ => ?_)
  have h18 := rWor_18 hW
  have ha := hW.1
  have hN4 := ha.1
  have h51 := hW.2.1.1
  refine zU_aload_n d_R_says_0 rfl ?_
  refine zU_iload_n d_R_says_1 rfl ?_
  refine zU_iload_n d_R_says_2 rfl ?_
  refine zU_callVi (p0 := 51) [zi x, zi y] d_R_says_3 k_R_161 rfl (by decide) rfl rfl (by decide) (Nat.le_of_ble_eq_true rfl) (fun l => m_R_refuses l μ hW hx hy) (fun r3 μ3 h3 => ?_)
  obtain ⟨hr3, hμ3⟩ := h3
  subst hr3
  have hW3 : rWor a v μ3 := by rw [hμ3]; exact rWor_thr hW _
  have hq3 := thr_q hμ3
  have ht3 := thr_0 hμ3
  refine zU_if_eq 11 d_R_says_6 (by decide) (zBr _) (fun h6 => ?_) (fun h6 => ?_)
  · have b6 := zB_zero.mp h6
    obtain ⟨hc0, hn0, hD⟩ := tcd_f b6
    obtain ⟨N, K, M, p, k0, hv, hvM, hs, hO, hG, hB, hT, hl, hp, hpk, hkN0, h28⟩ := rWor_get hW3 hn0
    have hN := hs.2.1.2
    rw [hvM] at hD
    obtain ⟨s, hxs⟩ : ∃ s : Nat, x = ((s + 1 : Nat) : Int) := ⟨(x - 1).toNat, by omega⟩
    have hsM : s < M := by omega
    obtain ⟨k, hk⟩ : ∃ k, (eO a N K M)[s]? = some k := ⟨_, List.getElem?_eq_getElem (by omega)⟩
    have hOk := hO.2.2.1 s k hk
    have hOk1 := hOk.1
    obtain ⟨e, hye⟩ : ∃ e : Nat, y = (e : Int) := ⟨y.toNat, by omega⟩
    have he : e < 12 := by omega
    have hKl : ktg (gtg (eg a N)) K k e ≤ N := ktg_leN (gtg_le hs.1 hOk1 he)
    refine zU.eqL (L' := [some (zp 51), some (zi x), some (zi (e : Int)), none]) (congrArg (fun zz : Int => [some (zp 51), some (zi x), some (zi zz), none]) (show (y : Int) = (e : Int) from hye)) ?_
    refine zU_aload_n d_R_says_11 rfl ?_
    refine zU_getR 67 d_R_says_12 f_R_56 (by decide) rfl rfl rfl ?_
    refine zU_iload_n d_R_says_15 rfl ?_
    refine zU_iconst d_R_says_16 ?_
    refine zU_isub d_R_says_17 ?_
    refine zU_iald (v := (k : Int)) d_R_says_18 (by decide) rfl (by decide) (by omega) (by rw [show (x - 1).toNat = s by omega]; exact hOk.2.2) ?_
    refine zU_istore_n d_R_says_19 (by decide) ?_
    refine zU.eqL (L' := [some (zp 51), some (zi x), some (zi (e : Int)), some (zi ((k : Int)))]) rfl ?_
    refine zU_aload_n d_R_says_20 rfl ?_
    refine zU_getR 63 d_R_says_21 f_R_44 (by decide) rfl rfl rfl ?_
    refine zU_bipush d_R_says_24 (by decide) ?_
    refine zU_iload_n d_R_says_26 rfl ?_
    refine zU_imul d_R_says_27 ?_
    refine zU_iload_n d_R_says_28 rfl ?_
    refine zU_iadd d_R_says_29 ?_
    refine zU_zald (v := zB (sU a (eg a N) k e)) d_R_says_30 (by decide) rfl (by decide) (by omega) (by rw [show ((12 * (k : Int)) + (e : Int)).toNat = 12 * k + e by omega]; exact (((rT_0 hT).2.2 k hOk1).2 e he).2) ?_
    refine zU_if_ne 38 d_R_says_31 (by decide) (zBr _) (fun h31 => ?_) (fun h31 => ?_)
    · have b31 := zB_nz.mp h31
      refine zU_aload_n d_R_says_38 rfl ?_
      refine zU_iconst d_R_says_39 ?_
      refine zU_iload_n d_R_says_40 rfl ?_
      refine zU_iload_n d_R_says_41 rfl ?_
      refine zU_callVi (p0 := 51) [zi 0, zi ((k : Int)), zi (e : Int)] d_R_says_42 k_R_135 rfl (by decide) rfl rfl (by decide) (Nat.le_of_ble_eq_true rfl) (fun l => m_R_good l μ3 (B := sC a) (w := 0) (by omega) hT hB (k := k) (e := e) hOk1 he) (fun r42 μ42 h42 => ?_)
      obtain ⟨hμ42, rfl⟩ := h42
      replace hμ42 := hμ42.symm
      subst hμ42
      refine zU_if_lt 52 d_R_says_45 (by decide) (by omega) (fun h45 => ?_) (fun h45 => ?_)
      · refine zU_iconst d_R_says_52 ?_
        exact zU_ireturn d_R_says_53 (Or.inl rfl) (by decide) (by decide) (⟨_, rfl, by rw [ht3, hc0]; exact Or.inl ⟨rfl, N, K, M, p, s, k, e, hv, hxs, hye, hsM, he, hk, (vd_1.mpr ⟨by omega, b31⟩).symm⟩, hW3, hq3⟩)
      · refine zU_iconst d_R_says_48 ?_
        refine zU_goto 53 d_R_says_49 (by decide) ?_
        exact zU_ireturn d_R_says_53 (Or.inl rfl) (by decide) (by decide) (⟨_, rfl, by rw [ht3, hc0]; exact Or.inl ⟨rfl, N, K, M, p, s, k, e, hv, hxs, hye, hsM, he, hk, (vd_0.mpr (by omega)).symm⟩, hW3, hq3⟩)
    · have b31 := zB_zero.mp h31
      refine zU_iconst d_R_says_34 ?_
      refine zU_goto 53 d_R_says_35 (by decide) ?_
      exact zU_ireturn d_R_says_53 (Or.inl rfl) (by decide) (by decide) (⟨_, rfl, by rw [ht3, hc0]; exact Or.inl ⟨rfl, N, K, M, p, s, k, e, hv, hxs, hye, hsM, he, hk, by unfold vd; rw [ktg_sU hs hOk1 he b31, if_pos rfl, b31]; rfl⟩, hW3, hq3⟩)
  · have b6 := zB_nz.mp h6
    refine zU_iconst d_R_says_9 ?_
    exact zU_ireturn d_R_says_10 (Or.inl rfl) (by decide) (by decide) (⟨_, rfl, by rw [ht3]; exact Or.inr (tcd_t b6), hW3, hq3⟩)
set_option maxRecDepth 100000 in
set_option maxHeartbeats 4000000 in
theorem m_R_leads (l : Launch) (μ : zM) {a : aT} {v : vT} (hW : rWor a v μ) {x : Int} (hx : -2147483648 ≤ x ∧ x ≤ 2147483647) {y : Int} (hy : -2147483648 ≤ y ∧ y ≤ 2147483647) :
    zC l y_R_leads b_R_leads 4 (some .int) [] 2 0 44 false [zp 51, zi x, zi y] μ (zRi (fun r μ' => aLeads a v x y (μ' 51 0) r ∧ rWor a v μ' ∧ ∀ q, (q < 51 ∨ q = 76) → μ' q = μ q)) := by
  refine zC.of (own := n_R) (L := [some (zp 51), some (zi x), some (zi y), none]) (by decide) rfl (by simp [zcat]) (Nat.le_of_ble_eq_true rfl) rfl (fun Γ => ?_)
  have h18 := rWor_18 hW
  have ha := hW.1
  have hN4 := ha.1
  have h51 := hW.2.1.1
  refine zU_aload_n d_R_leads_0 rfl ?_
  refine zU_iload_n d_R_leads_1 rfl ?_
  refine zU_iload_n d_R_leads_2 rfl ?_
  refine zU_callVi (p0 := 51) [zi x, zi y] d_R_leads_3 k_R_161 rfl (by decide) rfl rfl (by decide) (Nat.le_of_ble_eq_true rfl) (fun l => m_R_refuses l μ hW hx hy) (fun r3 μ3 h3 => ?_)
  obtain ⟨hr3, hμ3⟩ := h3
  subst hr3
  have hW3 : rWor a v μ3 := by rw [hμ3]; exact rWor_thr hW _
  have hq3 := thr_q hμ3
  have ht3 := thr_0 hμ3
  refine zU_if_eq 11 d_R_leads_6 (by decide) (zBr _) (fun h6 => ?_) (fun h6 => ?_)
  · have b6 := zB_zero.mp h6
    obtain ⟨hc0, hn0, hD⟩ := tcd_f b6
    obtain ⟨N, K, M, p, k0, hv, hvM, hs, hO, hG, hB, hT, hl, hp, hpk, hkN0, h28⟩ := rWor_get hW3 hn0
    have hN := hs.2.1.2
    rw [hvM] at hD
    obtain ⟨s, hxs⟩ : ∃ s : Nat, x = ((s + 1 : Nat) : Int) := ⟨(x - 1).toNat, by omega⟩
    have hsM : s < M := by omega
    obtain ⟨k, hk⟩ : ∃ k, (eO a N K M)[s]? = some k := ⟨_, List.getElem?_eq_getElem (by omega)⟩
    have hOk := hO.2.2.1 s k hk
    have hOk1 := hOk.1
    obtain ⟨e, hye⟩ : ∃ e : Nat, y = (e : Int) := ⟨y.toNat, by omega⟩
    have he : e < 12 := by omega
    have hKl : ktg (gtg (eg a N)) K k e ≤ N := ktg_leN (gtg_le hs.1 hOk1 he)
    refine zU.eqL (L' := [some (zp 51), some (zi x), some (zi (e : Int)), none]) (congrArg (fun zz : Int => [some (zp 51), some (zi x), some (zi zz), none]) (show (y : Int) = (e : Int) from hye)) ?_
    refine zU_aload_n d_R_leads_11 rfl ?_
    refine zU_iconst d_R_leads_12 ?_
    refine zU_aload_n d_R_leads_13 rfl ?_
    refine zU_getR 67 d_R_leads_14 f_R_56 (by decide) rfl rfl rfl ?_
    refine zU_iload_n d_R_leads_17 rfl ?_
    refine zU_iconst d_R_leads_18 ?_
    refine zU_isub d_R_leads_19 ?_
    refine zU_iald (v := (k : Int)) d_R_leads_20 (by decide) rfl (by decide) (by omega) (by rw [show (x - 1).toNat = s by omega]; exact hOk.2.2) ?_
    refine zU_iload_n d_R_leads_21 rfl ?_
    refine zU_callVi (p0 := 51) [zi 0, zi ((k : Int)), zi (e : Int)] d_R_leads_22 k_R_135 rfl (by decide) rfl rfl (by decide) (Nat.le_of_ble_eq_true rfl) (fun l => m_R_good l μ3 (B := sC a) (w := 0) (by omega) hT hB (k := k) (e := e) hOk1 he) (fun r22 μ22 h22 => ?_)
    obtain ⟨hμ22, rfl⟩ := h22
    replace hμ22 := hμ22.symm
    subst hμ22
    refine zU_istore_n d_R_leads_25 (by decide) ?_
    refine zU.eqL (L' := [some (zp 51), some (zi x), some (zi (e : Int)), some (zi ((ktg (gtg (eg a N)) K k e : Int) - 1))]) rfl ?_
    refine zU_iload_n d_R_leads_26 rfl ?_
    refine zU_if_ge 34 d_R_leads_27 (by decide) (by omega) (fun h27 => ?_) (fun h27 => ?_)
    · obtain ⟨s', hs', hks⟩ := oTgt hs.2.2.2.2.1 hk he (show ktg (gtg (eg a N)) K k e ≠ 0 by omega)
      have hOs := hO.2.2.1 s' _ hks
      have hOs1 : ktg (gtg (eg a N)) K k e - 1 < N := hOs.1
      refine zU_aload_n d_R_leads_34 rfl ?_
      refine zU_getR 68 d_R_leads_35 f_R_59 (by decide) rfl rfl rfl ?_
      refine zU_iload_n d_R_leads_38 rfl ?_
      refine zU_iald (v := ((s' + 1 : Nat) : Int)) d_R_leads_39 (by decide) rfl (by decide) (by omega) (by rw [show ((ktg (gtg (eg a N)) K k e : Int) - 1).toNat = ktg (gtg (eg a N)) K k e - 1 by omega]; exact hOs.2.1) ?_
      exact zU_ireturn d_R_leads_40 (Or.inl rfl) (by decide) (by decide) (⟨_, rfl, by rw [ht3, hc0]; exact Or.inl ⟨rfl, N, K, M, p, s, k, e, hv, hxs, hye, hsM, he, hk, Or.inr ⟨by omega, s', hks, rfl⟩⟩, hW3, hq3⟩)
    · refine zU_iconst d_R_leads_30 ?_
      refine zU_goto 40 d_R_leads_31 (by decide) ?_
      exact zU_ireturn d_R_leads_40 (Or.inl rfl) (by decide) (by decide) (⟨_, rfl, by rw [ht3, hc0]; exact Or.inl ⟨rfl, N, K, M, p, s, k, e, hv, hxs, hye, hsM, he, hk, Or.inl ⟨by omega, rfl⟩⟩, hW3, hq3⟩)
  · have b6 := zB_nz.mp h6
    refine zU_iconst d_R_leads_9 ?_
    exact zU_ireturn d_R_leads_10 (Or.inl rfl) (by decide) (by decide) (⟨_, rfl, by rw [ht3]; exact Or.inr (tcd_t b6), hW3, hq3⟩)
set_option maxRecDepth 100000 in
set_option maxHeartbeats 4000000 in
theorem m_R_part (l : Launch) (μ : zM) {a : aT} {v : vT} (hW : rWor a v μ) {x : Int} (hx : -2147483648 ≤ x ∧ x ≤ 2147483647) {y : Int} (hy : -2147483648 ≤ y ∧ y ≤ 2147483647) :
    zC l y_R_part b_R_part 3 (some .int) [] 1 0 23 false [zp 51, zi x, zi y] μ (zRi (fun r μ' => aPart a v x y (μ' 51 0) r ∧ rWor a v μ' ∧ ∀ q, (q < 51 ∨ q = 76) → μ' q = μ q)) := by
  refine zC.of (own := n_R) (L := [some (zp 51), some (zi x), some (zi y)]) (by decide) rfl (by simp [zcat]) (Nat.le_of_ble_eq_true rfl) rfl (fun Γ => ?_)
  have h18 := rWor_18 hW
  have ha := hW.1
  have hN4 := ha.1
  have h51 := hW.2.1.1
  refine zU_aload_n d_R_part_0 rfl ?_
  refine zU_aload_n d_R_part_1 rfl ?_
  refine zU_getI (v := (vM v : Int)) d_R_part_2 f_R_91 (by decide) rfl rfl (h18.1) ?_
  have hJ13 : zU Γ b_R_part n_R 3 (some .int) [] (zRm 1 0 23) 0 0 (zFin Γ 0 false (zRi (fun r μ' => aPart a v x y (μ' 51 0) r ∧ rWor a v μ' ∧ ∀ q, (q < 51 ∨ q = 76) → μ' q = μ q))) true 0 μ 13 [some (zp 51), some (zi x), some (zi y)] [zi (zB (decide (vM v = 0))), zp 51] := by
    refine zU_aload_n d_R_part_13 rfl ?_
    refine zU_getI (v := (vM v : Int)) d_R_part_14 f_R_91 (by decide) rfl rfl (h18.1) ?_
    have hJ49 : zU Γ b_R_part n_R 3 (some .int) [] (zRm 1 0 23) 0 0 (zFin Γ 0 false (zRi (fun r μ' => aPart a v x y (μ' 51 0) r ∧ rWor a v μ' ∧ ∀ q, (q < 51 ∨ q = 76) → μ' q = μ q))) true 0 μ 49 [some (zp 51), some (zi x), some (zi y)] [zi (zB (decide (vM v ≠ 0) && !decide ((1 ≤ x ∧ x ≤ (vM v : Int)) ∧ 0 ≤ y ∧ y < (aN a : Int)))), zi (zB (decide (vM v = 0))), zp 51] := by
      refine zU_callVi (p0 := 51) [zi (zB (decide (vM v = 0))), zi (zB (decide (vM v ≠ 0) && !decide ((1 ≤ x ∧ x ≤ (vM v : Int)) ∧ 0 ≤ y ∧ y < (aN a : Int))))] d_R_part_49 k_R_101 rfl (by decide) rfl rfl (by decide) (Nat.le_of_ble_eq_true rfl) (fun l => m_R_throwing l μ (p := decide (vM v = 0)) (q := decide (vM v ≠ 0) && !decide ((1 ≤ x ∧ x ≤ (vM v : Int)) ∧ 0 ≤ y ∧ y < (aN a : Int)))) (fun r49 μ49 h49 => ?_)
      obtain ⟨hr49, hμ49⟩ := h49
      subst hr49
      have hW3 : rWor a v μ49 := by rw [hμ49]; exact rWor_thr hW _
      have hq3 := thr_q hμ49
      have ht3 := thr_0 hμ49
      refine zU_if_eq 57 d_R_part_52 (by decide) (zBr _) (fun h52 => ?_) (fun h52 => ?_)
      · have b52 := zB_zero.mp h52
        obtain ⟨hc0, hn0, hD⟩ := tcd_f b52
        obtain ⟨N, K, M, p, k0, hv, hvM, hs, hO, hG, hB, hT, hl, hp, hpk, hkN0, h28⟩ := rWor_get hW3 hn0
        have hN := hs.2.1.2
        rw [hvM] at hD
        obtain ⟨s, hxs⟩ : ∃ s : Nat, x = ((s + 1 : Nat) : Int) := ⟨(x - 1).toNat, by omega⟩
        have hsM : s < M := by omega
        obtain ⟨k, hk⟩ : ∃ k, (eO a N K M)[s]? = some k := ⟨_, List.getElem?_eq_getElem (by omega)⟩
        have hOk := hO.2.2.1 s k hk
        have hOk1 := hOk.1
        obtain ⟨i, hyi⟩ : ∃ i : Nat, y = (i : Int) := ⟨y.toNat, by omega⟩
        have hiN : i < aN a := by omega
        have hle : (eg a N).1.length = N := hs.1.1
        obtain ⟨c, hck⟩ : ∃ c, (eg a N).1[k]? = some c := ⟨_, List.getElem?_eq_getElem (by omega)⟩
        have hrk : rOk a (aMem a none) c := ⟨hs.2.2.2.2.2.2.2 c (List.mem_of_getElem? hck), fun i hi hn => sMath_zero ha hs (List.mem_of_getElem? hck) hi hn⟩
        refine zU.eqL (L' := [some (zp 51), some (zi x), some (zi (i : Int))]) (congrArg (fun zz : Int => [some (zp 51), some (zi x), some (zi zz)]) (show (y : Int) = (i : Int) from hyi)) ?_
        refine zU_aload_n d_R_part_57 rfl ?_
        refine zU_getR 61 d_R_part_58 f_R_38 (by decide) rfl rfl rfl ?_
        refine zU_aload_n d_R_part_61 rfl ?_
        refine zU_getR 67 d_R_part_62 f_R_56 (by decide) rfl rfl rfl ?_
        refine zU_iload_n d_R_part_65 rfl ?_
        refine zU_iconst d_R_part_66 ?_
        refine zU_isub d_R_part_67 ?_
        refine zU_iald (v := (k : Int)) d_R_part_68 (by decide) rfl (by decide) (by omega) (by rw [show (x - 1).toNat = s by omega]; exact hOk.2.2) ?_
        refine zU_iald (v := (c6 c : Int)) d_R_part_69 (by decide) rfl (by decide) (by omega) (by have h9 := (hG.2 k hOk1).1; rw [show 200 * 0 + k = k by omega, getD_of hck] at h9; exact h9) ?_
        refine zU_iload_n d_R_part_70 rfl ?_
        refine zU_callSi [zi ((c6 c : Int)), zi (i : Int)] d_R_part_71 k_R_114 rfl (by decide) (Nat.le_of_ble_eq_true rfl) (fun l => m_R_digit l μ49 (c := c6 c) (i := i) (by have := c6_max c; omega) (by omega)) (fun r71 μ71 h71 => ?_)
        obtain ⟨hμ71, hr71⟩ := h71
        replace hμ71 := hμ71.symm
        subst hμ71
        rw [c6_dig ha hrk (by omega)] at hr71
        subst hr71
        exact zU_ireturn d_R_part_74 (Or.inl rfl) (by decide) (by decide) (⟨_, rfl, by rw [ht3, hc0]; exact Or.inl ⟨rfl, N, K, M, p, s, k, i, c, hv, hxs, hyi, hsM, hiN, hk, hck, rfl⟩, hW3, hq3⟩)
      · have b52 := zB_nz.mp h52
        refine zU_iconst d_R_part_55 ?_
        exact zU_ireturn d_R_part_56 (Or.inl rfl) (by decide) (by decide) (⟨_, rfl, by rw [ht3]; exact Or.inr (tcd_t b52), hW3, hq3⟩)
    refine zU_if_le 48 d_R_part_17 (by decide) (by omega) (fun h17 => ?_) (fun h17 => ?_)
    · refine zU_iconst d_R_part_48 ?_
      refine zU.eqS (st' := [zi (zB (decide (vM v ≠ 0) && !decide ((1 ≤ x ∧ x ≤ (vM v : Int)) ∧ 0 ≤ y ∧ y < (aN a : Int)))), zi (zB (decide (vM v = 0))), zp 51]) (congrArg (fun zz : Int => [zi zz, zi (zB (decide (vM v = 0))), zp 51]) (show (0 : Int) = zB (decide (vM v ≠ 0) && !decide ((1 ≤ x ∧ x ≤ (vM v : Int)) ∧ 0 ≤ y ∧ y < (aN a : Int))) from (zBf (andq_0 (by omega))).symm)) ?_
      exact hJ49 
    · refine zU_iload_n d_R_part_20 rfl ?_
      refine zU_iconst d_R_part_21 ?_
      refine zU_icmp_lt 44 d_R_part_22 (by decide) (by omega) (by omega) (fun h22 => ?_) (fun h22 => ?_)
      · refine zU_iconst d_R_part_44 ?_
        refine zU_goto 49 d_R_part_45 (by decide) ?_
        refine zU.eqS (st' := [zi (zB (decide (vM v ≠ 0) && !decide ((1 ≤ x ∧ x ≤ (vM v : Int)) ∧ 0 ≤ y ∧ y < (aN a : Int)))), zi (zB (decide (vM v = 0))), zp 51]) (congrArg (fun zz : Int => [zi zz, zi (zB (decide (vM v = 0))), zp 51]) (show (1 : Int) = zB (decide (vM v ≠ 0) && !decide ((1 ≤ x ∧ x ≤ (vM v : Int)) ∧ 0 ≤ y ∧ y < (aN a : Int))) from (zBt (andq_t (by omega) (fun h9 => by omega))).symm)) ?_
        exact hJ49 
      · refine zU_iload_n d_R_part_25 rfl ?_
        refine zU_aload_n d_R_part_26 rfl ?_
        refine zU_getI (v := (vM v : Int)) d_R_part_27 f_R_91 (by decide) rfl rfl (h18.1) ?_
        refine zU_icmp_gt 44 d_R_part_30 (by decide) (by omega) (by omega) (fun h30 => ?_) (fun h30 => ?_)
        · refine zU_iconst d_R_part_44 ?_
          refine zU_goto 49 d_R_part_45 (by decide) ?_
          refine zU.eqS (st' := [zi (zB (decide (vM v ≠ 0) && !decide ((1 ≤ x ∧ x ≤ (vM v : Int)) ∧ 0 ≤ y ∧ y < (aN a : Int)))), zi (zB (decide (vM v = 0))), zp 51]) (congrArg (fun zz : Int => [zi zz, zi (zB (decide (vM v = 0))), zp 51]) (show (1 : Int) = zB (decide (vM v ≠ 0) && !decide ((1 ≤ x ∧ x ≤ (vM v : Int)) ∧ 0 ≤ y ∧ y < (aN a : Int))) from (zBt (andq_t (by omega) (fun h9 => by omega))).symm)) ?_
          exact hJ49 
        · refine zU_iload_n d_R_part_33 rfl ?_
          refine zU_aload_n d_R_part_34 rfl ?_
          refine zU_getI (v := (aN a : Int)) d_R_part_35 f_R_98 (by decide) rfl rfl (h51) ?_
          refine zU_callSi [zi y, zi ((aN a : Int))] d_R_part_38 k_R_94 rfl (by decide) (Nat.le_of_ble_eq_true rfl) (fun l => m_R_out l μ hy (by omega)) (fun r38 μ38 h38 => ?_)
          obtain ⟨hμ38, rfl⟩ := h38
          replace hμ38 := hμ38.symm
          subst hμ38
          refine zU_if_eq 48 d_R_part_41 (by decide) (zBr _) (fun h41 => ?_) (fun h41 => ?_)
          · have b41 := zB_zero.mp h41
            refine zU_iconst d_R_part_48 ?_
            refine zU.eqS (st' := [zi (zB (decide (vM v ≠ 0) && !decide ((1 ≤ x ∧ x ≤ (vM v : Int)) ∧ 0 ≤ y ∧ y < (aN a : Int)))), zi (zB (decide (vM v = 0))), zp 51]) (congrArg (fun zz : Int => [zi zz, zi (zB (decide (vM v = 0))), zp 51]) (show (0 : Int) = zB (decide (vM v ≠ 0) && !decide ((1 ≤ x ∧ x ≤ (vM v : Int)) ∧ 0 ≤ y ∧ y < (aN a : Int))) from (zBf (andq_f ⟨⟨by omega, by omega⟩, nd_f b41⟩)).symm)) ?_
            exact hJ49 
          · have b41 := zB_nz.mp h41
            refine zU_iconst d_R_part_44 ?_
            refine zU_goto 49 d_R_part_45 (by decide) ?_
            refine zU.eqS (st' := [zi (zB (decide (vM v ≠ 0) && !decide ((1 ≤ x ∧ x ≤ (vM v : Int)) ∧ 0 ≤ y ∧ y < (aN a : Int)))), zi (zB (decide (vM v = 0))), zp 51]) (congrArg (fun zz : Int => [zi zz, zi (zB (decide (vM v = 0))), zp 51]) (show (1 : Int) = zB (decide (vM v ≠ 0) && !decide ((1 ≤ x ∧ x ≤ (vM v : Int)) ∧ 0 ≤ y ∧ y < (aN a : Int))) from (zBt (andq_t (by omega) (fun h9 => nd_t b41 h9.2))).symm)) ?_
            exact hJ49 
  refine zU_if_ne 12 d_R_part_5 (by decide) (by omega) (fun h5 => ?_) (fun h5 => ?_)
  · refine zU_iconst d_R_part_12 ?_
    refine zU.eqS (st' := [zi (zB (decide (vM v = 0))), zp 51]) (congrArg (fun zz : Int => [zi zz, zp 51]) (show (0 : Int) = zB (decide (vM v = 0)) from (zBf (by simp [show vM v ≠ 0 by omega])).symm)) ?_
    exact hJ13 
  · refine zU_iconst d_R_part_8 ?_
    refine zU_goto 13 d_R_part_9 (by decide) ?_
    refine zU.eqS (st' := [zi (zB (decide (vM v = 0))), zp 51]) (congrArg (fun zz : Int => [zi zz, zp 51]) (show (1 : Int) = zB (decide (vM v = 0)) from (zBt (by simp [show vM v = 0 by omega])).symm)) ?_
    exact hJ13 
set_option maxRecDepth 100000 in
set_option maxHeartbeats 4000000 in
theorem m_R_many (l : Launch) (μ : zM) {a : aT} {v : vT} (hW : rWor a v μ) {x : Int} (hx : -2147483648 ≤ x ∧ x ≤ 2147483647) :
    zC l y_R_many b_R_many 5 (some .int) [] 1 0 22 false [zp 51, zi x] μ (zRi (fun r μ' => aMany v x (μ' 51 0) r ∧ rWor a v μ' ∧ ∀ q, (q < 51 ∨ q = 76) → μ' q = μ q)) := by
  refine zC.of (own := n_R) (L := [some (zp 51), some (zi x), none, none, none]) (by decide) rfl (by simp [zcat]) (Nat.le_of_ble_eq_true rfl) rfl (fun Γ => ?_)
  have h18 := rWor_18 hW
  have ha := hW.1
  have hN4 := ha.1
  have h51 := hW.2.1.1
  have h17 := rWor_17 hW
  refine zU_iload_n d_R_many_0 rfl ?_
  refine zU_iconst d_R_many_1 ?_
  refine zU_callSi [zi x, zi 2] d_R_many_2 k_R_94 rfl (by decide) (Nat.le_of_ble_eq_true rfl) (fun l => m_R_out l μ hx (by omega)) (fun r2 μ2 h2 => ?_)
  obtain ⟨hμ2, rfl⟩ := h2
  replace hμ2 := hμ2.symm
  subst hμ2
  refine zU_istore_n d_R_many_5 (by decide) ?_
  refine zU.eqL (L' := [some (zp 51), some (zi x), some (zi (zB (!decide (0 ≤ x ∧ x < 2)))), none, none]) rfl ?_
  refine zU_aload_n d_R_many_6 rfl ?_
  refine zU_iload_n d_R_many_7 rfl ?_
  refine zU_iload_n d_R_many_8 rfl ?_
  have hJ24 : zU Γ b_R_many n_R 5 (some .int) [] (zRm 1 0 22) 0 0 (zFin Γ 0 false (zRi (fun r μ' => aMany v x (μ' 51 0) r ∧ rWor a v μ' ∧ ∀ q, (q < 51 ∨ q = 76) → μ' q = μ q))) true 0 μ 24 [some (zp 51), some (zi x), some (zi (zB (!decide (0 ≤ x ∧ x < 2)))), none, none] [zi (zB (decide (0 ≤ x ∧ x < 2) && decide (v = none))), zi (zB (!decide (0 ≤ x ∧ x < 2))), zp 51] := by
    refine zU_callVi (p0 := 51) [zi (zB (!decide (0 ≤ x ∧ x < 2))), zi (zB (decide (0 ≤ x ∧ x < 2) && decide (v = none)))] d_R_many_24 k_R_101 rfl (by decide) rfl rfl (by decide) (Nat.le_of_ble_eq_true rfl) (fun l => m_R_throwing l μ (p := !decide (0 ≤ x ∧ x < 2)) (q := decide (0 ≤ x ∧ x < 2) && decide (v = none))) (fun r24 μ24 h24 => ?_)
    obtain ⟨hr24, hμ24⟩ := h24
    subst hr24
    have hW3 : rWor a v μ24 := by rw [hμ24]; exact rWor_thr hW _
    have hq3 := thr_q hμ24
    have ht3 := thr_0 hμ24
    refine zU_if_eq 32 d_R_many_27 (by decide) (zBr _) (fun h27 => ?_) (fun h27 => ?_)
    · have b27 := zB_zero.mp h27
      have hxr : 0 ≤ x ∧ x < 2 := by
        by_cases h9 : 0 ≤ x ∧ x < 2
        · exact h9
        · simp [h9] at b27
      have hvn : v ≠ none := by
        intro h9
        simp [h9] at b27
        omega
      have hc0 : tcd (!decide (0 ≤ x ∧ x < 2)) (decide (0 ≤ x ∧ x < 2) && decide (v = none)) = 0 := by simp [tcd, hxr, hvn]
      obtain ⟨N, K, M, p, hv, hs, hT, hB, hwl, hwd, hlN⟩ := rWor_get2 hW3 hvn
      have hN := hs.2.1.2
      refine zU_iconst d_R_many_32 ?_
      refine zU_istore_n d_R_many_33 (by decide) ?_
      refine zU.eqL (L' := [some (zp 51), some (zi x), some (zi (zB (!decide (0 ≤ x ∧ x < 2)))), some (zi 0), none]) rfl ?_
      refine zU_iconst d_R_many_34 ?_
      refine zU_istore d_R_many_35 (by decide) ?_
      refine zU.eqL (L' := [some (zp 51), some (zi x), some (zi (zB (!decide (0 ≤ x ∧ x < 2)))), some (zi 0), some (zi 0)]) rfl ?_
      refine zU.eqL (L' := [some (zp 51), some (zi x), some (zi (zB (!decide (0 ≤ x ∧ x < 2)))), some (zi ((if x = 0 then 0 else cnt K 0 : Nat) : Int)), some (zi 0)]) (by simp [cnt]) ?_
      have hJ37 : ∀ (d : Nat) (k : Nat), k + d = N → zU Γ b_R_many n_R 5 (some .int) [] (zRm 1 0 22) 0 0 (zFin Γ 0 false (zRi (fun r μ' => aMany v x (μ' 51 0) r ∧ rWor a v μ' ∧ ∀ q, (q < 51 ∨ q = 76) → μ' q = μ q))) false 0 μ24 37 [some (zp 51), some (zi x), some (zi (zB (!decide (0 ≤ x ∧ x < 2)))), some (zi ((if x = 0 then k else cnt K k : Nat) : Int)), some (zi (k : Int))] [] := by
        intro d
        induction d using Nat.strongRecOn with
        | _ d ih37 =>
          intro k hd
          refine zU_iload d_R_many_37 rfl ?_
          refine zU_aload_n d_R_many_39 rfl ?_
          refine zU_getR 60 d_R_many_40 f_R_35 (by decide) rfl rfl rfl ?_
          refine zU_iconst d_R_many_43 ?_
          refine zU_iald (v := (N : Int)) d_R_many_44 (by decide) rfl (by decide) (by omega) (hT.1) ?_
          refine zU_icmp_ge 76 d_R_many_45 (by decide) (by omega) (by omega) (fun h45 => ?_) (fun h45 => ?_)
          · refine zU_iload_n d_R_many_76 rfl ?_
            exact zU_ireturn d_R_many_77 (Or.inl rfl) (by decide) (by decide) (⟨_, rfl, by rw [ht3, hc0]; have hkN : k = N := (by omega); exact Or.inl ⟨rfl, N, K, M, p, hv, by by_cases hx0 : x = 0; { rw [if_pos hx0, hkN]; exact Or.inl ⟨hx0, rfl⟩ }; { rw [if_neg hx0, hkN]; exact Or.inr ⟨by omega, rfl⟩ }⟩, hW3, hq3⟩)
          · have hkN : k < N := by omega
            refine zU_iload_n d_R_many_48 rfl ?_
            have hJ69 : zU Γ b_R_many n_R 5 (some .int) [] (zRm 1 0 22) 0 0 (zFin Γ 0 false (zRi (fun r μ' => aMany v x (μ' 51 0) r ∧ rWor a v μ' ∧ ∀ q, (q < 51 ∨ q = 76) → μ' q = μ q))) false 0 μ24 69 [some (zp 51), some (zi x), some (zi (zB (!decide (0 ≤ x ∧ x < 2)))), some (zi ((if x = 0 then k else cnt K k : Nat) : Int)), some (zi (k : Int))] [zi ((if x = 0 then (k + 1) else cnt K (k + 1) : Nat) : Int)] := by
              refine zU_istore_n d_R_many_69 (by decide) ?_
              refine zU.eqL (L' := [some (zp 51), some (zi x), some (zi (zB (!decide (0 ≤ x ∧ x < 2)))), some (zi ((if x = 0 then (k + 1) else cnt K (k + 1) : Nat) : Int)), some (zi (k : Int))]) rfl ?_
              refine zU_iinc d_R_many_70 rfl ?_
              refine zU.eqL (L' := [some (zp 51), some (zi x), some (zi (zB (!decide (0 ≤ x ∧ x < 2)))), some (zi ((if x = 0 then (k + 1) else cnt K (k + 1) : Nat) : Int)), some (zi (((k + 1 : Nat) : Int)))]) (by first | rfl | exact congrArg (fun zz : Int => [some (zp 51), some (zi x), some (zi (zB (!decide (0 ≤ x ∧ x < 2)))), some (zi ((if x = 0 then (k + 1) else cnt K (k + 1) : Nat) : Int)), some (zi zz)]) (show ((k : Int) + 1 : Int) = ((k + 1 : Nat) : Int) by omega)) ?_
              refine zU_goto 37 d_R_many_73 (by decide) ?_
              exact ih37 (d - 1) (by omega) (k + 1) (by omega)
            refine zU_if_eq 62 d_R_many_49 (by decide) (by omega) (fun h49 => ?_) (fun h49 => ?_)
            · refine zU_iload_n d_R_many_62 rfl ?_
              refine zU_iconst d_R_many_63 ?_
              refine zU_iadd d_R_many_64 ?_
              refine zU_goto 69 d_R_many_65 (by decide) ?_
              refine zU.eqS (st' := [zi ((if x = 0 then (k + 1) else cnt K (k + 1) : Nat) : Int)]) (congrArg (fun zz : Int => [zi zz]) (show (((if x = 0 then k else cnt K k : Nat) : Int) + 1 : Int) = ((if x = 0 then (k + 1) else cnt K (k + 1) : Nat) : Int) by rw [if_pos h49, if_pos h49]; omega)) ?_
              exact hJ69 
            · refine zU_aload_n d_R_many_52 rfl ?_
              refine zU_getR 65 d_R_many_53 f_R_50 (by decide) rfl rfl rfl ?_
              refine zU_iload d_R_many_56 rfl ?_
              refine zU_zald (v := zB (!K k)) d_R_many_58 (by decide) rfl (by decide) (by omega) (rB_0 hB k hkN) ?_
              refine zU_if_ne 68 d_R_many_59 (by decide) (zBr _) (fun h59 => ?_) (fun h59 => ?_)
              · have b59 := zB_nz.mp h59
                refine zU_iload_n d_R_many_68 rfl ?_
                refine zU.eqS (st' := [zi ((if x = 0 then (k + 1) else cnt K (k + 1) : Nat) : Int)]) (congrArg (fun zz : Int => [zi zz]) (show (((if x = 0 then k else cnt K k : Nat) : Int) : Int) = ((if x = 0 then (k + 1) else cnt K (k + 1) : Nat) : Int) by rw [if_neg h49, if_neg h49, cnt, if_neg (by simpa using b59)]; omega)) ?_
                exact hJ69 
              · have b59 := zB_zero.mp h59
                refine zU_iload_n d_R_many_62 rfl ?_
                refine zU_iconst d_R_many_63 ?_
                refine zU_iadd d_R_many_64 ?_
                refine zU_goto 69 d_R_many_65 (by decide) ?_
                refine zU.eqS (st' := [zi ((if x = 0 then (k + 1) else cnt K (k + 1) : Nat) : Int)]) (congrArg (fun zz : Int => [zi zz]) (show (((if x = 0 then k else cnt K k : Nat) : Int) + 1 : Int) = ((if x = 0 then (k + 1) else cnt K (k + 1) : Nat) : Int) by rw [if_neg h49, if_neg h49, cnt, if_pos (by simpa using b59)]; omega)) ?_
                exact hJ69 
      exact hJ37 N 0 (by omega)
    · have b27 := zB_nz.mp h27
      refine zU_iconst d_R_many_30 ?_
      exact zU_ireturn d_R_many_31 (Or.inl rfl) (by decide) (by decide) (⟨_, rfl, by rw [ht3]; by_cases h9 : 0 ≤ x ∧ x < 2; { have hvn : v = none := (by simpa [h9] using b27); exact Or.inr (Or.inr ⟨by simp [tcd, h9, hvn], h9, hvn⟩) }; { exact Or.inr (Or.inl ⟨by simp [tcd, h9], h9⟩) }, hW3, hq3⟩)
  refine zU_if_ne 23 d_R_many_9 (by decide) (zBr _) (fun h9 => ?_) (fun h9 => ?_)
  · have b9 := zB_nz.mp h9
    refine zU_iconst d_R_many_23 ?_
    refine zU.eqS (st' := [zi (zB (decide (0 ≤ x ∧ x < 2) && decide (v = none))), zi (zB (!decide (0 ≤ x ∧ x < 2))), zp 51]) (congrArg (fun zz : Int => [zi zz, zi (zB (!decide (0 ≤ x ∧ x < 2))), zp 51]) (show (0 : Int) = zB (decide (0 ≤ x ∧ x < 2) && decide (v = none)) from (zBf (by simp [nd_t b9])).symm)) ?_
    exact hJ24 
  · have b9 := zB_zero.mp h9
    refine zU_aload_n d_R_many_12 rfl ?_
    refine zU_getI (v := zB (!decide (v = none))) d_R_many_13 f_R_87 (by decide) rfl rfl (h17) ?_
    refine zU_if_ne 23 d_R_many_16 (by decide) (zBr _) (fun h16 => ?_) (fun h16 => ?_)
    · have b16 := zB_nz.mp h16
      refine zU_iconst d_R_many_23 ?_
      refine zU.eqS (st' := [zi (zB (decide (0 ≤ x ∧ x < 2) && decide (v = none))), zi (zB (!decide (0 ≤ x ∧ x < 2))), zp 51]) (congrArg (fun zz : Int => [zi zz, zi (zB (!decide (0 ≤ x ∧ x < 2))), zp 51]) (show (0 : Int) = zB (decide (0 ≤ x ∧ x < 2) && decide (v = none)) from (zBf (by simp at b16; simp [b16])).symm)) ?_
      exact hJ24 
    · have b16 := zB_zero.mp h16
      refine zU_iconst d_R_many_19 ?_
      refine zU_goto 24 d_R_many_20 (by decide) ?_
      refine zU.eqS (st' := [zi (zB (decide (0 ≤ x ∧ x < 2) && decide (v = none))), zi (zB (!decide (0 ≤ x ∧ x < 2))), zp 51]) (congrArg (fun zz : Int => [zi zz, zi (zB (!decide (0 ≤ x ∧ x < 2))), zp 51]) (show (1 : Int) = zB (decide (0 ≤ x ∧ x < 2) && decide (v = none)) from (zBt (by have h8 := nd_f b9; simp at b16; simp [b16, h8])).symm)) ?_
      exact hJ24 
set_option maxRecDepth 100000 in
set_option maxHeartbeats 4000000 in
theorem m_R_why (l : Launch) (μ : zM) {a : aT} {v : vT} (hW : rWor a v μ) :
    zC l y_R_why b_R_why 1 (some .int) [] 1 0 22 false [zp 51] μ (zRi (fun r μ' => aWhy a v (μ' 51 0) r ∧ rWor a v μ' ∧ ∀ q, (q < 51 ∨ q = 76) → μ' q = μ q)) := by
  refine zC.of (own := n_R) (L := [some (zp 51)]) (by decide) rfl (by simp [zcat]) (Nat.le_of_ble_eq_true rfl) rfl (fun Γ => ?_)
  have h18 := rWor_18 hW
  have ha := hW.1
  have hN4 := ha.1
  have h51 := hW.2.1.1
  have h17 := rWor_17 hW
  refine zU_aload_n d_R_why_0 rfl ?_
  refine zU_aload_n d_R_why_1 rfl ?_
  refine zU_getI (v := zB (!decide (v = none))) d_R_why_2 f_R_87 (by decide) rfl rfl (h17) ?_
  have hJ13 : zU Γ b_R_why n_R 1 (some .int) [] (zRm 1 0 22) 0 0 (zFin Γ 0 false (zRi (fun r μ' => aWhy a v (μ' 51 0) r ∧ rWor a v μ' ∧ ∀ q, (q < 51 ∨ q = 76) → μ' q = μ q))) true 0 μ 13 [some (zp 51)] [zi (zB (decide (v = none))), zp 51] := by
    refine zU_iconst d_R_why_13 ?_
    refine zU_callVi (p0 := 51) [zi (zB (decide (v = none))), zi 0] d_R_why_14 k_R_101 rfl (by decide) rfl rfl (by decide) (Nat.le_of_ble_eq_true rfl) (fun l => m_R_throwing l μ (p := decide (v = none)) (q := false)) (fun r14 μ14 h14 => ?_)
    obtain ⟨hr14, hμ14⟩ := h14
    subst hr14
    have hW3 : rWor a v μ14 := by rw [hμ14]; exact rWor_thr hW _
    have hq3 := thr_q hμ14
    have ht3 := thr_0 hμ14
    refine zU_if_eq 24 d_R_why_17 (by decide) (zBr _) (fun h17 => ?_) (fun h17 => ?_)
    · have b17 := zB_zero.mp h17
      have hvn : v ≠ none := by simpa using b17
      obtain ⟨N, K, M, p, hv, hs, hT, hB, hwl, hwd, hlN⟩ := rWor_get2 hW3 hvn
      have hwr := sWl_r hwl
      refine zU_aload_n d_R_why_24 rfl ?_
      refine zU_getI (v := μ14 51 26) d_R_why_25 f_R_158 (by decide) rfl rfl (rfl) ?_
      exact zU_ireturn d_R_why_28 (Or.inl rfl) (by decide) (by decide) (⟨_, rfl, by rw [ht3]; exact Or.inl ⟨by simp [tcd, hvn], N, K, M, p, hv, hwl⟩, hW3, hq3⟩)
    · have b17 := zB_nz.mp h17
      refine zU_iconst d_R_why_20 ?_
      refine zU_goto 28 d_R_why_21 (by decide) ?_
      exact zU_ireturn d_R_why_28 (Or.inl rfl) (by decide) (by decide) (⟨_, rfl, by rw [ht3]; have hvn : v = none := (by simpa using b17); exact Or.inr ⟨by simp [tcd, hvn], hvn⟩, hW3, hq3⟩)
  refine zU_if_ne 12 d_R_why_5 (by decide) (zBr _) (fun h5 => ?_) (fun h5 => ?_)
  · have b5 := zB_nz.mp h5
    refine zU_iconst d_R_why_12 ?_
    refine zU.eqS (st' := [zi (zB (decide (v = none))), zp 51]) (congrArg (fun zz : Int => [zi zz, zp 51]) (show (0 : Int) = zB (decide (v = none)) from (zBf (by simpa using b5)).symm)) ?_
    exact hJ13 
  · have b5 := zB_zero.mp h5
    refine zU_iconst d_R_why_8 ?_
    refine zU_goto 13 d_R_why_9 (by decide) ?_
    refine zU.eqS (st' := [zi (zB (decide (v = none))), zp 51]) (congrArg (fun zz : Int => [zi zz, zp 51]) (show (1 : Int) = zB (decide (v = none)) from (zBt (by simpa using b5)).symm)) ?_
    exact hJ13 
set_option maxRecDepth 100000 in
set_option maxHeartbeats 4000000 in
theorem m_R_whyEvent (l : Launch) (μ : zM) {a : aT} {v : vT} (hW : rWor a v μ) {x : Int} (hx : -2147483648 ≤ x ∧ x ≤ 2147483647) :
    zC l y_R_whyEvent b_R_whyEvent 2 (some .int) [] 1 0 22 false [zp 51, zi x] μ (zRi (fun r μ' => aWhyE a v x (μ' 51 0) r ∧ rWor a v μ' ∧ ∀ q, (q < 51 ∨ q = 76) → μ' q = μ q)) := by
  refine zC.of (own := n_R) (L := [some (zp 51), some (zi x)]) (by decide) rfl (by simp [zcat]) (Nat.le_of_ble_eq_true rfl) rfl (fun Γ => ?_)
  have h18 := rWor_18 hW
  have ha := hW.1
  have hN4 := ha.1
  have h51 := hW.2.1.1
  have h17 := rWor_17 hW
  refine zU_aload_n d_R_whyEvent_0 rfl ?_
  refine zU_aload_n d_R_whyEvent_1 rfl ?_
  refine zU_getI (v := zB (!decide (v = none))) d_R_whyEvent_2 f_R_87 (by decide) rfl rfl (h17) ?_
  have hJ13 : zU Γ b_R_whyEvent n_R 2 (some .int) [] (zRm 1 0 22) 0 0 (zFin Γ 0 false (zRi (fun r μ' => aWhyE a v x (μ' 51 0) r ∧ rWor a v μ' ∧ ∀ q, (q < 51 ∨ q = 76) → μ' q = μ q))) true 0 μ 13 [some (zp 51), some (zi x)] [zi (zB (decide (v = none))), zp 51] := by
    refine zU_aload_n d_R_whyEvent_13 rfl ?_
    refine zU_getI (v := zB (!decide (v = none))) d_R_whyEvent_14 f_R_87 (by decide) rfl rfl (h17) ?_
    have hJ36 : zU Γ b_R_whyEvent n_R 2 (some .int) [] (zRm 1 0 22) 0 0 (zFin Γ 0 false (zRi (fun r μ' => aWhyE a v x (μ' 51 0) r ∧ rWor a v μ' ∧ ∀ q, (q < 51 ∨ q = 76) → μ' q = μ q))) true 0 μ 36 [some (zp 51), some (zi x)] [zi (zB (!decide (v = none) && !decide (0 ≤ x ∧ x < μ 51 26))), zi (zB (decide (v = none))), zp 51] := by
      refine zU_callVi (p0 := 51) [zi (zB (decide (v = none))), zi (zB (!decide (v = none) && !decide (0 ≤ x ∧ x < μ 51 26)))] d_R_whyEvent_36 k_R_101 rfl (by decide) rfl rfl (by decide) (Nat.le_of_ble_eq_true rfl) (fun l => m_R_throwing l μ (p := decide (v = none)) (q := !decide (v = none) && !decide (0 ≤ x ∧ x < μ 51 26))) (fun r36 μ36 h36 => ?_)
      obtain ⟨hr36, hμ36⟩ := h36
      subst hr36
      have hW3 : rWor a v μ36 := by rw [hμ36]; exact rWor_thr hW _
      have hq3 := thr_q hμ36
      have ht3 := thr_0 hμ36
      refine zU_if_eq 46 d_R_whyEvent_39 (by decide) (zBr _) (fun h39 => ?_) (fun h39 => ?_)
      · have b39 := zB_zero.mp h39
        have hvn : v ≠ none := by
          intro h9
          simp [h9] at b39
        have hxr : 0 ≤ x ∧ x < μ 51 26 := by
          by_cases h9 : 0 ≤ x ∧ x < μ 51 26
          · exact h9
          · exfalso; simp [hvn] at b39; omega
        obtain ⟨N, K, M, p, hv, hs, hT, hB, hwl, hwd, hlN⟩ := rWor_get2 hW3 hvn
        have h26 : μ36 51 26 = μ 51 26 := by rw [hμ36, zup_at, if_neg (by omega)]
        have hwr := sWl_r hwl
        obtain ⟨k, hkl, hKk, hKj, hwk⟩ : ∃ k, k < (eg a N).1.length ∧ K k = false ∧ (∀ j, j < k → K j = true) ∧ μ36 51 26 = ((wB (fb (eg a N)) 200 k).length : Int) := by
          rcases hwl with ⟨h9, _⟩ | h9
          · omega
          · exact h9
        have hkN : k < N := by omega
        obtain ⟨i, hxi⟩ : ∃ i : Nat, x = (i : Int) := ⟨x.toNat, by omega⟩
        have hil : i < (wB (fb (eg a N)) 200 k).length := by omega
        have hwl2 := wB_len (fb (eg a N)) 200 k
        obtain ⟨y, hyy⟩ : ∃ y, (wB (fb (eg a N)) 200 k)[(wB (fb (eg a N)) 200 k).length - 1 - i]? = some y := ⟨_, List.getElem?_eq_getElem (by omega)⟩
        have hy12 : y < 12 := wB_12 _ _ _ y (List.mem_of_getElem? hyy)
        refine zU_aload_n d_R_whyEvent_46 rfl ?_
        refine zU_getR 73 d_R_whyEvent_47 f_R_74 (by decide) rfl rfl rfl ?_
        refine zU_iload_n d_R_whyEvent_50 rfl ?_
        refine zU_iald (v := (y : Int)) d_R_whyEvent_51 (by decide) rfl (by decide) (by omega) (by rw [show x.toNat = i by omega]; exact hwd k hkN hKk hKj i y hil hyy) ?_
        exact zU_ireturn d_R_whyEvent_52 (Or.inl rfl) (by decide) (by decide) (⟨_, rfl, by rw [ht3]; exact Or.inl ⟨by simp [tcd, hvn]; omega, N, K, M, p, k, i, hv, hxi, hkl, hKk, hKj, hil, y, hyy, rfl⟩, hW3, hq3⟩)
      · have b39 := zB_nz.mp h39
        refine zU_iconst d_R_whyEvent_42 ?_
        refine zU_goto 52 d_R_whyEvent_43 (by decide) ?_
        exact zU_ireturn d_R_whyEvent_52 (Or.inl rfl) (by decide) (by decide) (⟨_, rfl, by rw [ht3]; by_cases hvn : v = none; { exact Or.inr (Or.inl ⟨by simp [tcd, hvn], hvn⟩) }; { have h9 : ¬ (0 ≤ x ∧ x < μ 51 26) := (by intro h9; simp [hvn, h9] at b39); have h8 : (!decide (v = none) && !decide (0 ≤ x ∧ x < μ 51 26)) = true := (by rw [decide_eq_false hvn, decide_eq_false h9]; rfl); rw [h8, decide_eq_false hvn]; obtain ⟨N, K, M, p, hv, hs, hT, hB, hwl, hwd, hlN⟩ := rWor_get2 hW hvn; exact Or.inr (Or.inr ⟨rfl, N, K, M, p, hv, _, hwl, h9⟩) }, hW3, hq3⟩)
    refine zU_if_eq 35 d_R_whyEvent_17 (by decide) (zBr _) (fun h17 => ?_) (fun h17 => ?_)
    · have b17 := zB_zero.mp h17
      refine zU_iconst d_R_whyEvent_35 ?_
      refine zU.eqS (st' := [zi (zB (!decide (v = none) && !decide (0 ≤ x ∧ x < μ 51 26))), zi (zB (decide (v = none))), zp 51]) (congrArg (fun zz : Int => [zi zz, zi (zB (decide (v = none))), zp 51]) (show (0 : Int) = zB (!decide (v = none) && !decide (0 ≤ x ∧ x < μ 51 26)) from (zBf (by simp at b17; simp [b17])).symm)) ?_
      exact hJ36 
    · have b17 := zB_nz.mp h17
      have hvn0 : v ≠ none := by simpa using b17
      have hwr : -1 ≤ μ 51 26 ∧ μ 51 26 ≤ 200 := by obtain ⟨N, K, M, p, hv, hs, hT, hB, hwl, hwd, hlN⟩ := rWor_get2 hW hvn0; exact sWl_r hwl
      refine zU_iload_n d_R_whyEvent_20 rfl ?_
      refine zU_aload_n d_R_whyEvent_21 rfl ?_
      refine zU_getI (v := μ 51 26) d_R_whyEvent_22 f_R_158 (by decide) rfl rfl (rfl) ?_
      refine zU_callSi [zi x, zi (μ 51 26)] d_R_whyEvent_25 k_R_94 rfl (by decide) (Nat.le_of_ble_eq_true rfl) (fun l => m_R_out l μ hx (by omega)) (fun r25 μ25 h25 => ?_)
      obtain ⟨hμ25, rfl⟩ := h25
      replace hμ25 := hμ25.symm
      subst hμ25
      refine zU_if_eq 35 d_R_whyEvent_28 (by decide) (zBr _) (fun h28 => ?_) (fun h28 => ?_)
      · have b28 := zB_zero.mp h28
        refine zU_iconst d_R_whyEvent_35 ?_
        refine zU.eqS (st' := [zi (zB (!decide (v = none) && !decide (0 ≤ x ∧ x < μ 51 26))), zi (zB (decide (v = none))), zp 51]) (congrArg (fun zz : Int => [zi zz, zi (zB (decide (v = none))), zp 51]) (show (0 : Int) = zB (!decide (v = none) && !decide (0 ≤ x ∧ x < μ 51 26)) from (zBf (by simp at b17; simp [b17, nd_f b28])).symm)) ?_
        exact hJ36 
      · have b28 := zB_nz.mp h28
        refine zU_iconst d_R_whyEvent_31 ?_
        refine zU_goto 36 d_R_whyEvent_32 (by decide) ?_
        refine zU.eqS (st' := [zi (zB (!decide (v = none) && !decide (0 ≤ x ∧ x < μ 51 26))), zi (zB (decide (v = none))), zp 51]) (congrArg (fun zz : Int => [zi zz, zi (zB (decide (v = none))), zp 51]) (show (1 : Int) = zB (!decide (v = none) && !decide (0 ≤ x ∧ x < μ 51 26)) from (zBt (by simp at b17; simp [b17]; have := nd_t b28; omega)).symm)) ?_
        exact hJ36 
  refine zU_if_ne 12 d_R_whyEvent_5 (by decide) (zBr _) (fun h5 => ?_) (fun h5 => ?_)
  · have b5 := zB_nz.mp h5
    refine zU_iconst d_R_whyEvent_12 ?_
    refine zU.eqS (st' := [zi (zB (decide (v = none))), zp 51]) (congrArg (fun zz : Int => [zi zz, zp 51]) (show (0 : Int) = zB (decide (v = none)) from (zBf (by simpa using b5)).symm)) ?_
    exact hJ13 
  · have b5 := zB_zero.mp h5
    refine zU_iconst d_R_whyEvent_8 ?_
    refine zU_goto 13 d_R_whyEvent_9 (by decide) ?_
    refine zU.eqS (st' := [zi (zB (decide (v = none))), zp 51]) (congrArg (fun zz : Int => [zi zz, zp 51]) (show (1 : Int) = zB (decide (v = none)) from (zBt (by simpa using b5)).symm)) ?_
    exact hJ13 
