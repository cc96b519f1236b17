theorem rMake_f {a : aT} {v : vT} {r : Int} (h : rMake a v r) (hr : aReady a (aMem a none) = false) : r = -2 ∧ v = none := by
  rcases h with ⟨h1, h2, _⟩ | ⟨_, _, h3, _⟩ | ⟨N, K, M, _, h3, _⟩
  · exact ⟨h1, h2⟩
  · rw [hr] at h3; cases h3
  · rw [hr] at h3; cases h3
theorem rMake_m {a : aT} {v : vT} {r : Int} (h : rMake a v r) (hr : aReady a (aMem a none) = true) (hm : gMany (nxtA a (aMem a none)) (cod (aFirst a (aMem a none)))) : r = -1 ∧ v = none := by
  rcases h with ⟨_, _, h3⟩ | ⟨h1, h2, _, _⟩ | ⟨N, K, M, _, _, h4, _⟩
  · rw [hr] at h3; cases h3
  · exact ⟨h1, h2⟩
  · exact absurd hm (gFin_notMany h4.1 h4.2.1.2)
theorem rMake_s {a : aT} {v : vT} {r : Int} {N : Nat} (h : rMake a v r) (hr : aReady a (aMem a none) = true) (hF : gFin (nxtA a (aMem a none)) (cod (aFirst a (aMem a none))) N) (hN : N ≤ 200) : ∃ K M, v = some (N, K, M, 0) ∧ sMath a (aMem a none) N K M ∧ r = (M : Int) := by
  rcases h with ⟨_, _, h3⟩ | ⟨_, _, _, h4⟩ | ⟨N', K, M, h1, _, h4, h5⟩
  · rw [hr] at h3; cases h3
  · exact absurd h4 (gFin_notMany hF hN)
  · have := gFin_unique h4.1 hF
    subst this
    exact ⟨K, M, h1, h4, h5⟩
def wIn (g : gT) (K : Nat → Bool) (N : Nat) (r : Int) (m : Nat) (x : Int) (μ : zM) : Prop := (r = -1 ∧ ∀ k, k < N → K k = true) ∨ ∃ k0 k1 : Nat, k0 < N ∧ K k0 = false ∧ (∀ j, j < k0 → K j = true) ∧ r = ((wB (fb g) 200 k0).length : Int) ∧ x = (k1 : Int) ∧ k1 ≤ k0 ∧ m ≤ (wB (fb g) 200 k0).length ∧ wB (fb g) 200 k1 = (wB (fb g) 200 k0).drop m ∧ ∀ s y : Nat, s < m → (wB (fb g) 200 k0)[s]? = some y → μ 73 ((wB (fb g) 200 k0).length - 1 - s) = (y : Int)
theorem wIn_go {g : gT} {K : Nat → Bool} {N m : Nat} {r x : Int} {μ : zM} (hg : gFb g) (hl : g.1.length = N) (hN : N ≤ 200) (h : wIn g K N r m x μ) (h0 : ¬ r - 1 - (m : Int) < 0) (hby : ∀ k0, k0 < N → K k0 = false → (∀ j, j < k0 → K j = true) → ∀ j, 1 ≤ j → j ≤ k0 → μ 70 j = ((fb g j % 12 : Nat) : Int) ∧ μ 69 j = ((fb g j / 12 - 1 : Nat) : Int)) :
    ∃ k1 : Nat, x = (k1 : Int) ∧ k1 < N ∧ μ 70 k1 = ((fb g k1 % 12 : Nat) : Int) ∧ μ 69 k1 = ((fb g k1 / 12 - 1 : Nat) : Int) ∧ (∃ i : Nat, r - 1 - (m : Int) = (i : Int) ∧ i < 200) ∧ wIn g K N r (m + 1) ((fb g k1 / 12 - 1 : Nat) : Int) (zup μ 73 (r - 1 - (m : Int)).toNat ((fb g k1 % 12 : Nat) : Int)) := by
  rcases h with ⟨h1, _⟩ | ⟨k0, k1, a1, a2, a3, a4, a5, a6, a7, a8, a9⟩
  · omega
  · have hwl := wB_len (fb g) 200 k0
    have hm : m < (wB (fb g) 200 k0).length := by omega
    have hne : k1 ≠ 0 := by
      intro h9
      rw [h9, wB_0] at a8
      have := congrArg List.length a8
      rw [List.length_drop, List.length_nil] at this
      omega
    have hs := dp_s hg (j := k1) (by omega) (by omega) (by omega)
    have hgk := hg k1 (by omega) (by omega)
    rw [a8, List.drop_eq_getElem_cons hm] at hs
    have hs1 := (List.cons.inj hs).1
    have hs2 := (List.cons.inj hs).2
    have hb := hby k0 a1 a2 a3 k1 (by omega) a6
    refine ⟨k1, a5, by omega, hb.1, hb.2, ⟨(r - 1 - (m : Int)).toNat, by omega, by omega⟩, Or.inr ⟨k0, fb g k1 / 12 - 1, a1, a2, a3, a4, rfl, by omega, by omega, hs2.symm, fun s y hs' hy => ?_⟩⟩
    rw [zup_at]
    by_cases hsm : s = m
    · subst hsm
      rw [if_pos ⟨rfl, by omega⟩]
      rw [List.getElem?_eq_getElem hm] at hy
      rw [← Option.some.inj hy, hs1]
    · rw [if_neg (by omega)]
      exact a9 s y (by omega) hy
theorem wIn_end {a : aT} {K : Nat → Bool} {N m : Nat} {r x : Int} {μ : zM} (hl : (eg a N).1.length = N) (h : wIn (eg a N) K N r m x μ) (h0 : r - 1 - (m : Int) < 0) : sWl (eg a N) K r ∧ rWd a N K μ := by
  rcases h with ⟨h1, h2⟩ | ⟨k0, k1, a1, a2, a3, a4, a5, a6, a7, a8, a9⟩
  · exact ⟨Or.inl ⟨h1, fun k hk => h2 k (by omega)⟩, fun k hk hK => by rw [h2 k hk] at hK; cases hK⟩
  · refine ⟨Or.inr ⟨k0, by omega, a2, a3, a4⟩, fun k hk hK hj i y hi hy => ?_⟩
    have hkk : k = k0 := by
      rcases Nat.lt_trichotomy k k0 with h | h | h
      · have := a3 k h; rw [hK] at this; cases this
      · exact h
      · have := hj k0 h; rw [a2] at this; cases this
    subst hkk
    have := a9 ((wB (fb (eg a N)) 200 k).length - 1 - i) y (by omega) hy
    rwa [show (wB (fb (eg a N)) 200 k).length - 1 - ((wB (fb (eg a N)) 200 k).length - 1 - i) = i by omega] at this
theorem wIn_r {g : gT} {K : Nat → Bool} {N m : Nat} {r x : Int} {μ : zM} (h : wIn g K N r m x μ) : -1 ≤ r ∧ r ≤ 200 := by
  rcases h with ⟨h1, _⟩ | ⟨k0, k1, a1, a2, a3, a4, _⟩
  · omega
  · have := wB_len (fb g) 200 k0
    omega
theorem rChg_v (μ : zM) (t : Int) : rChg μ t 51 0 = t ∧ rChg μ t 51 17 = 0 ∧ rChg μ t 51 18 = 0 := by
  unfold rChg
  refine ⟨?_, ?_, ?_⟩ <;> simp [zup_at]
set_option maxRecDepth 100000 in
set_option maxHeartbeats 4000000 in
theorem m_R_make (l : Launch) (μ : zM) {a : aT} (ha : aOk a) (hc : rRep a μ) {v : vT} {r0 : Int} (hM : rMake a v r0) :
    zC l y_R_make b_R_make 3 (some .int) [] 3 0 82 false [zp 51] μ (zRi (fun r μ' => r = r0 ∧ rWor a v μ' ∧ μ' 51 0 = 0 ∧ ∀ q, (q < 51 ∨ q = 76) → μ' q = μ q)) := by
  refine zC.of (own := n_R) (L := [some (zp 51), none, none]) (by decide) rfl (by simp [zcat]) (Nat.le_of_ble_eq_true rfl) rfl (fun Γ => ?_)
  refine zU_aload_n d_R_make_0 rfl ?_
  refine zU_iconst d_R_make_1 ?_
  refine zU_putI d_R_make_2 f_R_83 p_R_thrown (by decide) rfl rfl (Or.inl rfl) ?_
  refine zU_aload_n d_R_make_5 rfl ?_
  refine zU_callVv (p0 := 51) [] d_R_make_6 k_R_105 rfl (by decide) rfl rfl (by decide) (Nat.le_of_ble_eq_true rfl) (fun l => m_R_change l (zup μ 51 0 0)) (fun μ6 h6 => ?_)
  have hμc : μ6 = rChg μ 0 := h6
  have hcc : rRep a μ6 := by rw [hμc]; exact rRep_chg hc
  refine zU_aload_n d_R_make_9 rfl ?_
  refine zU_iconst d_R_make_10 ?_
  refine zU_callVi (p0 := 51) [zi (-1)] d_R_make_11 k_R_138 rfl (by decide) rfl rfl (by decide) (Nat.le_of_ble_eq_true rfl) (fun l => m_R_isModel l μ6 ha hcc (r := none) (fun x h => by cases h)) (fun r11 μ11 h11 => ?_)
  obtain ⟨hμ11, rfl⟩ := h11
  replace hμ11 := hμ11.symm
  subst hμ11
  refine zU_if_ne 20 d_R_make_14 (by decide) (zBr _) (fun h14 => ?_) (fun h14 => ?_)
  · have b14 := zB_nz.mp h14
    refine zU_aload_n d_R_make_20 rfl ?_
    refine zU_iconst d_R_make_21 ?_
    refine zU_iconst d_R_make_22 ?_
    refine zU_callVi (p0 := 51) [zi 0, zi (-1)] d_R_make_23 k_R_141 rfl (by decide) rfl rfl (by decide) (Nat.le_of_ble_eq_true rfl) (fun l => m_R_explore l μ6 ha hcc (r := none) (fun x h => by cases h) (w := 0) (by omega) (ready_I b14)) (fun r23 μ23 h23 => ?_)
    obtain ⟨h23a, hF23⟩ := h23
    have hr23 : -2147483648 ≤ r23 ∧ r23 ≤ 2147483647 := by rcases h23a with h | h <;> omega
    refine zU_if_ne 31 d_R_make_26 (by decide) (hr23) (fun h26 => ?_) (fun h26 => ?_)
    · obtain ⟨N, hFin, hN0, hN, hG23, hB23⟩ : ∃ N, gFin (nxtA a (aMem a none)) (cod (aFirst a (aMem a none))) N ∧ 0 < N ∧ N ≤ 200 ∧ rGr a (aMem a none) 0 N μ23 ∧ rBd 0 N (sB a (aMem a none) (sg a (aMem a none) N)) μ23 := by
        rcases h23a with h | h
        · exact h.2
        · exact absurd h.1 h26
      obtain ⟨K, M, hv, hs, hr0⟩ := rMake_s hM b14 hFin hN
      have hc23 := rRep_fr hcc hF23
      have hT23 := rGr_T ha hc23 hFin hN hG23
      have hlN : (eg a N).1.length = N := hFin.1
      refine zU_aload_n d_R_make_31 rfl ?_
      refine zU_iconst d_R_make_32 ?_
      refine zU_callVv (p0 := 51) [zi 0] d_R_make_33 k_R_144 rfl (by decide) rfl rfl (by decide) (Nat.le_of_ble_eq_true rfl) (fun l => m_R_settle l μ23 (w := 0) (by omega) hT23 hB23 (gAbove_B _ _ _ _ _ _)) (fun μ33 h33 => ?_)
      obtain ⟨K', hF33, hB33, hA33, hP33⟩ := h33
      have hBK : rBd 0 N K μ33 := rBd_K hB33 (fun k hk => (gPA_eq hs.2.2.1 hs.2.2.2.1 hP33 hA33 k hk).symm)
      refine zU_aload_n d_R_make_36 rfl ?_
      refine zU_iconst d_R_make_37 ?_
      refine zU_putI d_R_make_38 f_R_87 p_R_result (by decide) rfl rfl (Or.inr ⟨rfl, by omega⟩) ?_
      obtain ⟨μs, hμs⟩ : ∃ μs, μs = zup μ33 51 17 1 := ⟨_, rfl⟩
      refine zU.eqM (μ' := μs) hμs.symm ?_
      have h33 : ∀ q, (q < 60 ∨ 66 < q) → μ33 q = rChg μ 0 q := fun q hq => by rw [rFr_q (rF2_fr hF33) hq, rFr_q hF23 hq, hμc]
      have hs51 : ∀ x, x ≠ 17 → μs 51 x = rChg μ 0 51 x := fun x hx => by rw [hμs, zup_at, if_neg (by omega), h33 51 (by omega)]
      have hsq : ∀ q, q ≠ 51 → μs q = μ33 q := fun q hq => by rw [hμs, zup_ne _ _ _ hq]
      have hcs : rRep a μs := rRep_congr hcc (by rw [hs51 1 (by decide), hμc]) (fun q h1 h2 => by rw [hsq q (by omega), h33 q (by omega), hμc])
      have hTs := rT_q (rT_fr hT23 hF33) (fun q h1 h2 => hsq q (by omega))
      have hBs := rBd_q hBK (hsq 65 (by decide))
      have hGs : rGr a (aMem a none) 0 N μs := rGr_fr hG23 hN (fun q x h1 h2 _ => by rw [hsq q (by omega)]; exact hF33 q x (by omega))
      refine zU_iconst d_R_make_41 ?_
      refine zU_istore_n d_R_make_42 (by decide) ?_
      refine zU.eqL (L' := [some (zp 51), some (zi 0), none]) rfl ?_
      have hJ43 : ∀ (d : Nat) (k : Nat) (μ1 : zM), k + d = N → (∀ j, j < k → μ1 68 j = 0) → (∀ q, q ≠ 68 → μ1 q = μs q) → zU Γ b_R_make n_R 3 (some .int) [] (zRm 3 0 82) 0 0 (zFin Γ 0 false (zRi (fun r μ' => r = r0 ∧ rWor a v μ' ∧ μ' 51 0 = 0 ∧ ∀ q, (q < 51 ∨ q = 76) → μ' q = μ q))) false 0 μ1 43 [some (zp 51), some (zi (k : Int)), none] [] := by
        intro d
        induction d using Nat.strongRecOn with
        | _ d ih43 =>
          intro k μ1 hd h68 hq1
          refine zU_iload_n d_R_make_43 rfl ?_
          refine zU_aload_n d_R_make_44 rfl ?_
          refine zU_getR 60 d_R_make_45 f_R_35 (by decide) rfl rfl rfl ?_
          refine zU_iconst d_R_make_48 ?_
          refine zU_iald (v := (N : Int)) d_R_make_49 (by decide) rfl (by decide) (by omega) (by rw [hq1 60 (by decide)]; exact hTs.1) ?_
          refine zU_icmp_ge 66 d_R_make_50 (by decide) (by omega) (by omega) (fun h50 => ?_) (fun h50 => ?_)
          · refine zU_aload_n d_R_make_66 rfl ?_
            refine zU_iconst d_R_make_67 ?_
            refine zU_callVv (p0 := 51) [zi 0] d_R_make_68 k_R_148 rfl (by decide) rfl rfl (by decide) (Nat.le_of_ble_eq_true rfl) (fun l => m_R_keep l μ1 (k := 0) (N := N) hN0 hN (rBd_q hBs (hq1 65 (by decide))) (rO_0 (by rw [hq1 51 (by decide), hs51 18 (by decide)]; exact (rChg_v μ 0).2.2) (fun k' hk' => h68 k' (by omega)))) (fun μ68 h68' => ?_)
            obtain ⟨hO68, hq68, hx68⟩ := h68'
            rw [← oAt_first (gtg (eg a N)) K] at hO68
            refine zU_iconst d_R_make_71 ?_
            refine zU_istore_n d_R_make_72 (by decide) ?_
            refine zU.eqL (L' := [some (zp 51), some (zi 0), none]) rfl ?_
            have hJ73 : ∀ (d : Nat) (i : Nat) (μ2 : zM), i + d = 201 → rO N (oAt (gtg (eg a N)) K (12 * i)) μ2 → i ≤ (oAt (gtg (eg a N)) K (12 * i)).length → (∀ j, j < i → j < (oAt (gtg (eg a N)) K (12 * j)).length) → (∀ q, q ≠ 51 → q ≠ 67 → q ≠ 68 → μ2 q = μs q) → (∀ x, x ≠ 18 → μ2 51 x = μs 51 x) → zU Γ b_R_make n_R 3 (some .int) [] (zRm 3 0 82) 0 0 (zFin Γ 0 false (zRi (fun r μ' => r = r0 ∧ rWor a v μ' ∧ μ' 51 0 = 0 ∧ ∀ q, (q < 51 ∨ q = 76) → μ' q = μ q))) false 0 μ2 73 [some (zp 51), some (zi (i : Int)), none] [] := by
              intro d
              induction d using Nat.strongRecOn with
              | _ d ih73 =>
                intro i μ2 hd hO hil hks hq2 hx2
                have hlO := rO_len hO
                refine zU_iload_n d_R_make_73 rfl ?_
                refine zU_aload_n d_R_make_74 rfl ?_
                refine zU_getI (v := ((oAt (gtg (eg a N)) K (12 * i)).length : Int)) d_R_make_75 f_R_91 (by decide) rfl rfl (hO.1) ?_
                refine zU_icmp_ge 140 d_R_make_78 (by decide) (by omega) (by omega) (fun h78 => ?_) (fun h78 => ?_)
                · have hiM : i = M := oFin_unique ⟨(show (oAt (gtg (eg a N)) K (12 * i)).length = i by omega), hks⟩ hs.2.2.2.2.1
                  refine zU_aload_n d_R_make_140 rfl ?_
                  refine zU_iconst d_R_make_141 ?_
                  refine zU_putI d_R_make_142 f_R_151 p_R_here (by decide) rfl rfl (Or.inl rfl) ?_
                  obtain ⟨μ4, hμ4⟩ : ∃ μ4, μ4 = zup μ2 51 28 0 := ⟨_, rfl⟩
                  refine zU.eqM (μ' := μ4) hμ4.symm ?_
                  have hq4 : ∀ q, q ≠ 51 → q ≠ 67 → q ≠ 68 → μ4 q = μs q := fun q h1 h2 h3 => by rw [hμ4, zup_ne _ _ _ h1]; exact hq2 q h1 h2 h3
                  refine zU_aload_n d_R_make_145 rfl ?_
                  refine zU_aload_n d_R_make_146 rfl ?_
                  refine zU_iconst d_R_make_147 ?_
                  refine zU_iconst d_R_make_148 ?_
                  refine zU_callVi (p0 := 51) [zi 0, zi 1] d_R_make_149 k_R_154 rfl (by decide) rfl rfl (by decide) (Nat.le_of_ble_eq_true rfl) (fun l => m_R_search l μ4 (rT_q hTs (fun q h1 h2 => hq4 q (by omega) (by omega) (by omega))) (rBd_q hBs (hq4 65 (by decide) (by decide) (by decide))) (f := 0) hN0 (lb := true)) (fun r149 μ149 h149 => ?_)
                  obtain ⟨h149a, hs149⟩ := h149
                  have hY : wIn (eg a N) K N r149 0 (μ149 51 25) μ149 ∧ ∀ k0, k0 < N → K k0 = false → (∀ j, j < k0 → K j = true) → ∀ j, 1 ≤ j → j ≤ k0 → μ149 70 j = ((fb (eg a N) j % 12 : Nat) : Int) ∧ μ149 69 j = ((fb (eg a N) j / 12 - 1 : Nat) : Int) := by
                    rcases h149a with ⟨i9, x9, b1, b2, b3, b4, b5, b6, b7, b8⟩ | ⟨b1, i9, b2, b3, b4, b5⟩
                    · obtain ⟨c1, c2, c3, c4, c5, c6⟩ := bLost_yes hFin b2 b4 b5 b8
                      refine ⟨Or.inr ⟨i9, i9, c2, c3, c4, by rw [b6, c5], by rw [b7, c1], by omega, by omega, by simp, fun s y hs' => absurd hs' (by omega)⟩, fun k0 hk0 hK0 hj0 j hj1 hj2 => ?_⟩
                      have hkk : k0 = i9 := by
                        rcases Nat.lt_trichotomy k0 i9 with h | h | h
                        · have := c4 k0 h; rw [hK0] at this; cases this
                        · exact h
                        · have := hj0 i9 h; rw [c3] at this; cases this
                      subst hkk
                      exact c6 j hj1 hj2
                    · have hall := bLost_no hFin b2 b3 b5
                      exact ⟨Or.inl ⟨b1, hall⟩, fun k0 hk0 hK0 => by rw [hall k0 hk0] at hK0; cases hK0⟩
                  have hr149 := wIn_r hY.1
                  refine zU_putI d_R_make_152 f_R_158 p_R_length (by decide) rfl rfl (Or.inl rfl) ?_
                  obtain ⟨μ5, hμ5⟩ : ∃ μ5, μ5 = zup μ149 51 26 r149 := ⟨_, rfl⟩
                  refine zU.eqM (μ' := μ5) hμ5.symm ?_
                  have hq5 : ∀ q, q ≠ 51 → μ5 q = μ149 q := fun q hq => by rw [hμ5, zup_ne _ _ _ hq]
                  have hY5 : wIn (eg a N) K N r149 0 (μ149 51 25) μ5 := by
                    unfold wIn
                    rw [hq5 73 (by decide)]
                    exact hY.1
                  refine zU_aload_n d_R_make_155 rfl ?_
                  refine zU_getI (v := μ149 51 25) d_R_make_156 f_R_132 (by decide) rfl rfl (by rw [hμ5, zup_at]; simp) ?_
                  refine zU_istore_n d_R_make_159 (by decide) ?_
                  refine zU.eqL (L' := [some (zp 51), some (zi (μ149 51 25)), none]) rfl ?_
                  refine zU_aload_n d_R_make_160 rfl ?_
                  refine zU_getI (v := r149) d_R_make_161 f_R_158 (by decide) rfl rfl (by rw [hμ5, zup_at]; simp) ?_
                  refine zU_iconst d_R_make_164 ?_
                  refine zU_isub d_R_make_165 ?_
                  refine zU_istore_n d_R_make_166 (by decide) ?_
                  refine zU.eqL (L' := [some (zp 51), some (zi (μ149 51 25)), some (zi ((r149) - 1))]) rfl ?_
                  refine zU.eqL (L' := [some (zp 51), some (zi (μ149 51 25)), some (zi (r149 - 1 - ((0 : Nat) : Int)))]) (congrArg (fun zz : Int => [some (zp 51), some (zi (μ149 51 25)), some (zi zz)]) (show r149 - 1 = r149 - 1 - ((0 : Nat) : Int) by omega)) ?_
                  have hJ167 : ∀ (d : Nat) (m : Nat) (x : Int) (μ6 : zM), m + d = 201 → wIn (eg a N) K N r149 m x μ6 → (∀ q, q ≠ 73 → μ6 q = μ5 q) → zU Γ b_R_make n_R 3 (some .int) [] (zRm 3 0 82) 0 0 (zFin Γ 0 false (zRi (fun r μ' => r = r0 ∧ rWor a v μ' ∧ μ' 51 0 = 0 ∧ ∀ q, (q < 51 ∨ q = 76) → μ' q = μ q))) false 0 μ6 167 [some (zp 51), some (zi x), some (zi (r149 - 1 - (m : Int)))] [] := by
                    intro d
                    induction d using Nat.strongRecOn with
                    | _ d ih167 =>
                      intro m x μ6 hd6 hW hq6
                      refine zU_iload_n d_R_make_167 rfl ?_
                      refine zU_if_lt 196 d_R_make_168 (by decide) (by omega) (fun h168 => ?_) (fun h168 => ?_)
                      · have hw6 := wIn_end hlN hW h168
                        have h6q : ∀ q, q ≠ 51 → q ≠ 73 → (q < 67 ∨ 73 < q) → μ6 q = μs q := fun q h1 h2 h3 => by rw [hq6 q h2, hq5 q h1, hs149.1 q h1 (by omega), hq4 q h1 (by omega) (by omega)]
                        have h6x : ∀ x, x ≠ 18 → x ≠ 25 → x ≠ 26 → x ≠ 28 → μ6 51 x = μs 51 x := fun x h1 h2 h3 h4 => by rw [hq6 51 (by decide), hμ5, zup_at, if_neg (by omega), hs149.2 x h2, hμ4, zup_at, if_neg (by omega)]; exact hx2 x h1
                        have hc6 : rRep a μ6 := rRep_congr hcs (h6x 1 (by decide) (by decide) (by decide) (by decide)) (fun q h1 h2 => h6q q (by omega) (by omega) (by omega))
                        have h17 : μ6 51 17 = 1 := by rw [h6x 17 (by decide) (by decide) (by decide) (by decide), hμs, zup_at]; simp
                        have hO6 : rO N (eO a N K M) μ6 := by
                          rw [hiM] at hO
                          refine rO_congr hO ?_ ?_ ?_
                          · rw [hq6 51 (by decide), hμ5, zup_at, if_neg (by omega), hs149.2 18 (by decide), hμ4, zup_at, if_neg (by omega)]
                          · rw [hq6 68 (by decide), hq5 68 (by decide), hs149.1 68 (by decide) (by decide), hμ4, zup_ne _ _ _ (by decide)]
                          · rw [hq6 67 (by decide), hq5 67 (by decide), hs149.1 67 (by decide) (by decide), hμ4, zup_ne _ _ _ (by decide)]
                        have hG6 : rGr a (aMem a none) 0 N μ6 := rGr_fr hGs hN (fun q x h1 h2 _ => by rw [h6q q (by omega) (by omega) (by omega)])
                        have hB6 := rBd_q hBs (h6q 65 (by decide) (by decide) (by decide))
                        have h26 : μ6 51 26 = r149 := by rw [hq6 51 (by decide), hμ5, zup_at]; simp
                        rw [← h26] at hw6
                        have h28 : μ6 51 28 = ((0 : Nat) : Int) := by rw [hq6 51 (by decide), hμ5, zup_at, if_neg (by omega), hs149.2 28 (by decide), hμ4, zup_at]; simp
                        have h0 : μ6 51 0 = 0 := by rw [h6x 0 (by decide) (by decide) (by decide) (by decide), hs51 0 (by decide)]; exact (rChg_v μ 0).1
                        have h51q : ∀ q, (q < 51 ∨ q = 76) → μ6 q = μ q := fun q hq => by rw [h6q q (by omega) (by omega) (by omega), hsq q (by omega), h33 q (by omega), rChg_q μ 0 (by omega)]
                        refine zU_aload_n d_R_make_196 rfl ?_
                        refine zU_getI (v := (M : Int)) d_R_make_197 f_R_91 (by decide) rfl rfl (by rw [hq6 51 (by decide), hμ5, zup_at, if_neg (by omega), hs149.2 18 (by decide), hμ4, zup_at, if_neg (by omega), hO.1, hiM]; have h9 : (oAt (gtg (eg a N)) K (12 * M)).length = M := hs.2.2.2.2.1.1; rw [h9]) ?_
                        exact zU_ireturn d_R_make_200 (Or.inl rfl) (by decide) (by decide) (⟨_, rfl, hr0.symm, ⟨ha, hc6, Or.inr ⟨N, K, M, 0, hv, hs, h17, hO6, hG6, hB6, hw6.1, hw6.2, fun hM0 => ⟨hM0, 0, oAt_0 (by rw [hs.2.2.2.2.1.1]; exact hM0), h28⟩⟩⟩, h0, h51q⟩)
                      · obtain ⟨k1, hx1, hk1N, hb70, hb69, ⟨i1, hi1, hi1l⟩, hgo⟩ := wIn_go (gAt_fb _ _ _) hlN hN hW h168 (fun k0 c1 c2 c3 j c4 c5 => by rw [hq6 70 (by decide), hq6 69 (by decide), hq5 70 (by decide), hq5 69 (by decide)]; exact hY.2 k0 c1 c2 c3 j c4 c5)
                        refine zU_aload_n d_R_make_171 rfl ?_
                        refine zU_getR 73 d_R_make_172 f_R_74 (by decide) rfl rfl rfl ?_
                        refine zU_iload_n d_R_make_175 rfl ?_
                        refine zU_aload_n d_R_make_176 rfl ?_
                        refine zU_getR 70 d_R_make_177 f_R_65 (by decide) rfl rfl rfl ?_
                        refine zU_iload_n d_R_make_180 rfl ?_
                        refine zU_iald (v := ((fb (eg a N) k1 % 12 : Nat) : Int)) d_R_make_181 (by decide) rfl (by decide) (by omega) (by rw [show x.toNat = k1 by omega]; exact hb70) ?_
                        refine zU_iast d_R_make_182 (by decide) rfl (by decide) (by omega) ?_
                        refine zU.eqM (μ' := zup μ6 73 (r149 - 1 - (m : Int)).toNat ((fb (eg a N) k1 % 12 : Nat) : Int)) rfl ?_
                        refine zU_aload_n d_R_make_183 rfl ?_
                        refine zU_getR 69 d_R_make_184 f_R_62 (by decide) rfl rfl rfl ?_
                        refine zU_iload_n d_R_make_187 rfl ?_
                        refine zU_iald (v := ((fb (eg a N) k1 / 12 - 1 : Nat) : Int)) d_R_make_188 (by decide) rfl (by decide) (by omega) (by rw [zup_ne _ _ _ (by decide), show x.toNat = k1 by omega]; exact hb69) ?_
                        refine zU_istore_n d_R_make_189 (by decide) ?_
                        refine zU.eqL (L' := [some (zp 51), some (zi (((fb (eg a N) k1 / 12 - 1 : Nat) : Int))), some (zi (r149 - 1 - (m : Int)))]) rfl ?_
                        refine zU_iinc d_R_make_190 rfl ?_
                        refine zU.eqL (L' := [some (zp 51), some (zi (((fb (eg a N) k1 / 12 - 1 : Nat) : Int))), some (zi ((r149 - 1 - ((m + 1 : Nat) : Int))))]) (by first | rfl | exact congrArg (fun zz : Int => [some (zp 51), some (zi (((fb (eg a N) k1 / 12 - 1 : Nat) : Int))), some (zi zz)]) (show ((r149 - 1 - (m : Int)) + (-1) : Int) = (r149 - 1 - ((m + 1 : Nat) : Int)) by omega)) ?_
                        refine zU_goto 167 d_R_make_193 (by decide) ?_
                        exact ih167 (d - 1) (by omega) (m + 1) _ _ (by omega) hgo (fun q hq => by rw [zup_ne _ _ _ hq]; exact hq6 q hq)
                  exact hJ167 201 0 _ μ5 (by omega) hY5 (fun _ _ => rfl)
                · obtain ⟨k, hk2⟩ : ∃ k, (oAt (gtg (eg a N)) K (12 * i))[i]? = some k := ⟨_, List.getElem?_eq_getElem (by omega)⟩
                  have hkN := (hO.2.2.1 i k hk2).1
                  refine zU_iconst d_R_make_81 ?_
                  refine zU_istore_n d_R_make_82 (by decide) ?_
                  refine zU.eqL (L' := [some (zp 51), some (zi (i : Int)), some (zi 0)]) rfl ?_
                  have hJ83 : ∀ (d : Nat) (e : Nat) (μ3 : zM), e + d = 12 → rO N (oAt (gtg (eg a N)) K (12 * i + e)) μ3 → (∀ q, q ≠ 51 → q ≠ 67 → q ≠ 68 → μ3 q = μs q) → (∀ x, x ≠ 18 → μ3 51 x = μs 51 x) → zU Γ b_R_make n_R 3 (some .int) [] (zRm 3 0 82) 0 0 (zFin Γ 0 false (zRi (fun r μ' => r = r0 ∧ rWor a v μ' ∧ μ' 51 0 = 0 ∧ ∀ q, (q < 51 ∨ q = 76) → μ' q = μ q))) false 0 μ3 83 [some (zp 51), some (zi (i : Int)), some (zi (e : Int))] [] := by
                    intro d
                    induction d using Nat.strongRecOn with
                    | _ d ih83 =>
                      intro e μ3 hd3 hO3 hq3 hx3
                      refine zU_iload_n d_R_make_83 rfl ?_
                      refine zU_bipush d_R_make_84 (by decide) ?_
                      refine zU_icmp_ge 134 d_R_make_86 (by decide) (by omega) (by omega) (fun h86 => ?_) (fun h86 => ?_)
                      · have he12 : 12 * (i + 1) = 12 * i + e := by omega
                        refine zU_iinc d_R_make_134 rfl ?_
                        refine zU.eqL (L' := [some (zp 51), some (zi (((i + 1 : Nat) : Int))), some (zi (e : Int))]) (by first | rfl | exact congrArg (fun zz : Int => [some (zp 51), some (zi zz), some (zi (e : Int))]) (show ((i : Int) + 1 : Int) = ((i + 1 : Nat) : Int) by omega)) ?_
                        refine zU_goto 73 d_R_make_137 (by decide) ?_
                        refine zU.drop 2 (L' := [some (zp 51), some (zi (((i + 1 : Nat) : Int))), none]) rfl ?_
                        exact ih73 (201 - (i + 1)) (by omega) (i + 1) μ3 (by omega) (by rw [he12]; exact hO3) (by rw [he12]; have := oAt_len (tg := (gtg (eg a N))) (K := K) (show 12 * i ≤ 12 * i + e by omega); omega) (fun j hj => by by_cases hji : j = i; { rw [hji]; omega }; { exact hks j (by omega) }) hq3 hx3
                      · have he : e < 12 := by omega
                        have hk3 := oAt_get (show 12 * i ≤ 12 * i + e by omega) hk2
                        have hTg : (gtg (eg a N)) k e ≤ N := gtg_le hFin hkN he
                        have hT3 := rT_0 (rT_q hTs (fun q h1 h2 => hq3 q (by omega) (by omega) (by omega)))
                        refine zU_aload_n d_R_make_89 rfl ?_
                        refine zU_getR 62 d_R_make_90 f_R_41 (by decide) rfl rfl rfl ?_
                        refine zU_bipush d_R_make_93 (by decide) ?_
                        refine zU_aload_n d_R_make_95 rfl ?_
                        refine zU_getR 67 d_R_make_96 f_R_56 (by decide) rfl rfl rfl ?_
                        refine zU_iload_n d_R_make_99 rfl ?_
                        refine zU_iald (v := (k : Int)) d_R_make_100 (by decide) rfl (by decide) (by omega) ((hO3.2.2.1 i k hk3).2.2) ?_
                        refine zU_imul d_R_make_101 ?_
                        refine zU_iload_n d_R_make_102 rfl ?_
                        refine zU_iadd d_R_make_103 ?_
                        refine zU_iald (v := ((gtg (eg a N)) k e : Int) - 1) d_R_make_104 (by decide) rfl (by decide) (by omega) (by rw [show ((12 * (k : Int)) + (e : Int)).toNat = 12 * k + e by omega]; exact ((hT3.2.2 k hkN).2 e he).1.1) ?_
                        refine zU_if_lt 128 d_R_make_105 (by decide) (by omega) (fun h105 => ?_) (fun h105 => ?_)
                        · refine zU_iinc d_R_make_128 rfl ?_
                          refine zU.eqL (L' := [some (zp 51), some (zi (i : Int)), some (zi (((e + 1 : Nat) : Int)))]) (by first | rfl | exact congrArg (fun zz : Int => [some (zp 51), some (zi (i : Int)), some (zi zz)]) (show ((e : Int) + 1 : Int) = ((e + 1 : Nat) : Int) by omega)) ?_
                          refine zU_goto 83 d_R_make_131 (by decide) ?_
                          exact ih83 (d - 1) (by omega) (e + 1) μ3 (by omega) (by rw [oAt_skip he hk3 (by omega)]; exact hO3) hq3 hx3
                        · refine zU_aload_n d_R_make_108 rfl ?_
                          refine zU_aload_n d_R_make_109 rfl ?_
                          refine zU_getR 62 d_R_make_110 f_R_41 (by decide) rfl rfl rfl ?_
                          refine zU_bipush d_R_make_113 (by decide) ?_
                          refine zU_aload_n d_R_make_115 rfl ?_
                          refine zU_getR 67 d_R_make_116 f_R_56 (by decide) rfl rfl rfl ?_
                          refine zU_iload_n d_R_make_119 rfl ?_
                          refine zU_iald (v := (k : Int)) d_R_make_120 (by decide) rfl (by decide) (by omega) ((hO3.2.2.1 i k hk3).2.2) ?_
                          refine zU_imul d_R_make_121 ?_
                          refine zU_iload_n d_R_make_122 rfl ?_
                          refine zU_iadd d_R_make_123 ?_
                          refine zU_iald (v := (((gtg (eg a N)) k e - 1 : Nat) : Int)) d_R_make_124 (by decide) rfl (by decide) (by omega) (by rw [show ((12 * (k : Int)) + (e : Int)).toNat = 12 * k + e by omega]; have h9 : μ3 62 (12 * k + e) = (gtg (eg a N) k e : Int) - 1 := ((hT3.2.2 k hkN).2 e he).1.1; omega) ?_
                          refine zU_callVv (p0 := 51) [zi ((((gtg (eg a N)) k e - 1 : Nat) : Int))] d_R_make_125 k_R_148 rfl (by decide) rfl rfl (by decide) (Nat.le_of_ble_eq_true rfl) (fun l => m_R_keep l μ3 (k := (gtg (eg a N)) k e - 1) (N := N) (by omega) hN (rBd_q hBs (hq3 65 (by decide) (by decide) (by decide))) hO3) (fun μ125 h125 => ?_)
                          obtain ⟨hO125, hq125, hx125⟩ := h125
                          rw [← oAt_keep he hk3 (by omega)] at hO125
                          refine zU_iinc d_R_make_128 rfl ?_
                          refine zU.eqL (L' := [some (zp 51), some (zi (i : Int)), some (zi (((e + 1 : Nat) : Int)))]) (by first | rfl | exact congrArg (fun zz : Int => [some (zp 51), some (zi (i : Int)), some (zi zz)]) (show ((e : Int) + 1 : Int) = ((e + 1 : Nat) : Int) by omega)) ?_
                          refine zU_goto 83 d_R_make_131 (by decide) ?_
                          exact ih83 (d - 1) (by omega) (e + 1) μ125 (by omega) hO125 (fun q h1 h2 h3 => by rw [hq125 q h1 h2 h3]; exact hq3 q h1 h2 h3) (fun x hx => by rw [hx125 x hx]; exact hx3 x hx)
                  exact hJ83 12 0 μ2 (by omega) hO hq2 hx2
            exact hJ73 201 0 μ68 (by omega) hO68 (by omega) (fun j hj => absurd hj (by omega)) (fun q h1 h2 h3 => by rw [hq68 q h1 h2 h3]; exact hq1 q h3) (fun x hx => by rw [hx68 x hx, hq1 51 (by decide)])
          · refine zU_aload_n d_R_make_53 rfl ?_
            refine zU_getR 68 d_R_make_54 f_R_59 (by decide) rfl rfl rfl ?_
            refine zU_iload_n d_R_make_57 rfl ?_
            refine zU_iconst d_R_make_58 ?_
            refine zU_iast d_R_make_59 (by decide) rfl (by decide) (by omega) ?_
            refine zU.eqM (μ' := zup μ1 68 k 0) rfl ?_
            refine zU_iinc d_R_make_60 rfl ?_
            refine zU.eqL (L' := [some (zp 51), some (zi (((k + 1 : Nat) : Int))), none]) (by first | rfl | exact congrArg (fun zz : Int => [some (zp 51), some (zi zz), none]) (show ((k : Int) + 1 : Int) = ((k + 1 : Nat) : Int) by omega)) ?_
            refine zU_goto 43 d_R_make_63 (by decide) ?_
            exact ih43 (d - 1) (by omega) (k + 1) _ (by omega) (fun j hj => by rw [zup_at]; by_cases hjk : j = k; { rw [if_pos ⟨rfl, hjk⟩] }; { rw [if_neg (by omega)]; exact h68 j (by omega) }) (fun q hq => by rw [zup_ne _ _ _ hq]; exact hq1 q hq)
      exact hJ43 N 0 μs (by omega) (fun j hj => absurd hj (by omega)) (fun _ _ => rfl)
    · have hm30 : gMany (nxtA a (aMem a none)) (cod (aFirst a (aMem a none))) := by
        rcases h23a with h | h
        · omega
        · exact h.2
      refine zU_iconst d_R_make_29 ?_
      exact zU_ireturn d_R_make_30 (Or.inl rfl) (by decide) (by decide) (⟨_, rfl, (rMake_m hM b14 hm30).1.symm, ⟨ha, rRep_fr hcc hF23, by rw [(rMake_m hM b14 hm30).2]; exact Or.inl ⟨rfl, by unfold rNo; rw [rFr_q hF23 (by omega), hμc]; exact (rChg_v μ 0).2⟩⟩, by rw [rFr_q hF23 (by omega), hμc]; exact (rChg_v μ 0).1, fun q hq => by rw [rFr_q hF23 (by omega), hμc, rChg_q μ 0 (by omega)]⟩)
  · have b14 := zB_zero.mp h14
    refine zU_bipush d_R_make_17 (by decide) ?_
    exact zU_ireturn d_R_make_19 (Or.inl rfl) (by decide) (by decide) (⟨_, rfl, (rMake_f hM b14).1.symm, ⟨ha, hcc, by rw [(rMake_f hM b14).2]; exact Or.inl ⟨rfl, by rw [hμc]; exact (rChg_v μ 0).2⟩⟩, by rw [hμc]; exact (rChg_v μ 0).1, fun q hq => by rw [hμc, rChg_q μ 0 (by omega)]⟩)
