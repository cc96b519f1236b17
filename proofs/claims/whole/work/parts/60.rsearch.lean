theorem rT_0 {N : Nat} {tg : Nat → Nat → Nat} {U : Nat → Nat → Bool} {C G : Nat → Bool} {μ : zM} (h : rT N tg U C G 0 μ) : μ 60 0 = (N : Int) ∧ N ≤ 200 ∧ ∀ k, k < N → μ 64 k = zB (G k) ∧ ∀ e, e < 12 → (μ 62 (12 * k + e) = (tg k e : Int) - 1 ∧ tg k e ≤ N) ∧ μ 63 (12 * k + e) = zB (U k e) := by
  refine ⟨h.1, h.2.1, fun k hk => ?_⟩
  have h1 := h.2.2 k hk
  rw [show 200 * 0 + k = k by omega] at h1
  exact ⟨h1.1, fun e he => ⟨(h1.2 e he).1, (h1.2 e he).2.1⟩⟩
theorem rB_0 {N : Nat} {K : Nat → Bool} {μ : zM} (h : rBd 0 N K μ) : ∀ k, k < N → μ 65 k = zB (!K k) := by
  intro k hk
  have := h k hk
  rwa [show 200 * 0 + k = k by omega] at this
theorem rT_q {N : Nat} {tg : Nat → Nat → Nat} {U : Nat → Nat → Bool} {C G : Nat → Bool} {w : Nat} {μ μ' : zM} (h : rT N tg U C G w μ) (hq : ∀ q, 59 ≤ q → q ≤ 64 → μ' q = μ q) : rT N tg U C G w μ' := by
  unfold rT
  rw [hq 59 (by omega) (by omega), hq 60 (by omega) (by omega), hq 62 (by omega) (by omega), hq 63 (by omega) (by omega), hq 64 (by omega) (by omega)]
  exact h
theorem rBd_q {w N : Nat} {K : Nat → Bool} {μ μ' : zM} (h : rBd w N K μ) (hq : μ' 65 = μ 65) : rBd w N K μ' := by
  unfold rBd
  rw [hq]
  exact h
def sFr (μ μ' : zM) : Prop := (∀ q, q ≠ 51 → (q < 69 ∨ 72 < q) → μ' q = μ q) ∧ ∀ x, x ≠ 25 → μ' 51 x = μ 51 x
set_option maxRecDepth 100000 in
set_option maxHeartbeats 4000000 in
theorem m_R_search (l : Launch) (μ : zM) {N : Nat} {tg : Nat → Nat → Nat} {U : Nat → Nat → Bool} {C G K : Nat → Bool} (hT : rT N tg U C G 0 μ) (hB : rBd 0 N K μ) {f : Nat} (hf : f < N) {lb : Bool} :
    zC l y_R_search b_R_search 8 (some .int) [] 1 0 24 false [zp 51, zi (f : Int), zi (zB lb)] μ (zRi (fun r μ' => ((∃ i x : Nat, (∀ j, j ≤ i → j < (gAt (nxT (bT tg K lb)) f (12 * j)).1.length) ∧ (gAt (nxT (bT tg K lb)) f (12 * i)).1[i]? = some x ∧ (gAt (nxT (bT tg K lb)) f (12 * i)).1.length ≤ 200 ∧ bS K G lb x = true ∧ (∀ j y : Nat, j < i → (gAt (nxT (bT tg K lb)) f (12 * i)).1[j]? = some y → bS K G lb y = false) ∧ r = (dp (gAt (nxT (bT tg K lb)) f (12 * i)) i : Int) ∧ μ' 51 25 = (x : Int) ∧ bQ (gAt (nxT (bT tg K lb)) f (12 * i)) N μ') ∨ (r = -1 ∧ ∃ i, (∀ j, j < i → j < (gAt (nxT (bT tg K lb)) f (12 * j)).1.length) ∧ (gAt (nxT (bT tg K lb)) f (12 * i)).1.length = i ∧ i ≤ 200 ∧ ∀ j y : Nat, j < i → (gAt (nxT (bT tg K lb)) f (12 * i)).1[j]? = some y → bS K G lb y = false)) ∧ sFr μ μ')) := by
  refine zC.of (own := n_R) (L := [some (zp 51), some (zi (f : Int)), some (zi (zB lb)), none, none, none, none, none]) (by decide) rfl (by simp [zcat]) (Nat.le_of_ble_eq_true rfl) rfl (fun Γ => ?_)
  have hN := hT.2.1
  refine zU_iconst d_R_search_0 ?_
  refine zU_istore_n d_R_search_1 (by decide) ?_
  refine zU.eqL (L' := [some (zp 51), some (zi (f : Int)), some (zi (zB lb)), some (zi 0), none, none, none, none]) rfl ?_
  have hJ2 : ∀ (d : Nat) (k : Nat) (μ1 : zM), k + d = N → (∀ j, j < k → μ1 71 j = -1) → (∀ q, q ≠ 71 → μ1 q = μ q) → zU Γ b_R_search n_R 8 (some .int) [] (zRm 1 0 24) 0 0 (zFin Γ 0 false (zRi (fun r μ' => ((∃ i x : Nat, (∀ j, j ≤ i → j < (gAt (nxT (bT tg K lb)) f (12 * j)).1.length) ∧ (gAt (nxT (bT tg K lb)) f (12 * i)).1[i]? = some x ∧ (gAt (nxT (bT tg K lb)) f (12 * i)).1.length ≤ 200 ∧ bS K G lb x = true ∧ (∀ j y : Nat, j < i → (gAt (nxT (bT tg K lb)) f (12 * i)).1[j]? = some y → bS K G lb y = false) ∧ r = (dp (gAt (nxT (bT tg K lb)) f (12 * i)) i : Int) ∧ μ' 51 25 = (x : Int) ∧ bQ (gAt (nxT (bT tg K lb)) f (12 * i)) N μ') ∨ (r = -1 ∧ ∃ i, (∀ j, j < i → j < (gAt (nxT (bT tg K lb)) f (12 * j)).1.length) ∧ (gAt (nxT (bT tg K lb)) f (12 * i)).1.length = i ∧ i ≤ 200 ∧ ∀ j y : Nat, j < i → (gAt (nxT (bT tg K lb)) f (12 * i)).1[j]? = some y → bS K G lb y = false)) ∧ sFr μ μ'))) false 0 μ1 2 [some (zp 51), some (zi (f : Int)), some (zi (zB lb)), some (zi (k : Int)), none, none, none, none] [] := by
    intro d
    induction d using Nat.strongRecOn with
    | _ d ih2 =>
      intro k μ1 hd h71 hq1
      refine zU_iload_n d_R_search_2 rfl ?_
      refine zU_aload_n d_R_search_3 rfl ?_
      refine zU_getR 60 d_R_search_4 f_R_35 (by decide) rfl rfl rfl ?_
      refine zU_iconst d_R_search_7 ?_
      refine zU_iald (v := (N : Int)) d_R_search_8 (by decide) rfl (by decide) (by omega) (by rw [hq1 60 (by decide)]; exact hT.1) ?_
      refine zU_icmp_ge 25 d_R_search_9 (by decide) (by omega) (by omega) (fun h9 => ?_) (fun h9 => ?_)
      · have hk : k = N := by omega
        refine zU_aload_n d_R_search_25 rfl ?_
        refine zU_getR 71 d_R_search_26 f_R_68 (by decide) rfl rfl rfl ?_
        refine zU_iload_n d_R_search_29 rfl ?_
        refine zU_iconst d_R_search_30 ?_
        refine zU_iast d_R_search_31 (by decide) rfl (by decide) (by omega) ?_
        refine zU.eqM (μ' := zup μ1 71 f 0) rfl ?_
        refine zU_aload_n d_R_search_32 rfl ?_
        refine zU_getR 72 d_R_search_33 f_R_71 (by decide) rfl rfl rfl ?_
        refine zU_iconst d_R_search_36 ?_
        refine zU_iload_n d_R_search_37 rfl ?_
        refine zU_iast d_R_search_38 (by decide) rfl (by decide) (by omega) ?_
        obtain ⟨μ3, hμ3⟩ : ∃ μ3, μ3 = zup (zup μ1 71 f 0) 72 0 (f : Int) := ⟨_, rfl⟩
        refine zU.eqM (μ' := μ3) hμ3.symm ?_
        have hq3 : ∀ q, (q < 69 ∨ 72 < q) → μ3 q = μ q := fun q hq => by rw [hμ3, zup_ne _ _ _ (by omega), zup_ne _ _ _ (by omega)]; exact hq1 q (by omega)
        have hQ3 : bQ (gAt (nxT (bT tg K lb)) f 0) N μ3 := bQ_0 (μ := μ1) hf (fun z hz => h71 z (by omega)) (fun z => by rw [hμ3, zup_ne _ _ _ (by decide), zup_at]; simp) (by rw [hμ3, zup_at]; simp)
        refine zU_iconst d_R_search_39 ?_
        refine zU_istore_n d_R_search_40 (by decide) ?_
        refine zU.eqL (L' := [some (zp 51), some (zi (f : Int)), some (zi (zB lb)), some (zi 1), none, none, none, none]) rfl ?_
        refine zU_iconst d_R_search_41 ?_
        refine zU_istore d_R_search_42 (by decide) ?_
        refine zU.eqL (L' := [some (zp 51), some (zi (f : Int)), some (zi (zB lb)), some (zi 1), some (zi 0), none, none, none]) rfl ?_
        have hJ44 : ∀ (d : Nat) (i : Nat) (μ1 : zM), i + d = 201 → bQ (gAt (nxT (bT tg K lb)) f (12 * i)) N μ1 → i ≤ (gAt (nxT (bT tg K lb)) f (12 * i)).1.length → (∀ j, j < i → j < (gAt (nxT (bT tg K lb)) f (12 * j)).1.length) → (∀ j y : Nat, j < i → (gAt (nxT (bT tg K lb)) f (12 * i)).1[j]? = some y → bS K G lb y = false) → (∀ q, (q < 69 ∨ 72 < q) → μ1 q = μ q) → zU Γ b_R_search n_R 8 (some .int) [] (zRm 1 0 24) 0 0 (zFin Γ 0 false (zRi (fun r μ' => ((∃ i x : Nat, (∀ j, j ≤ i → j < (gAt (nxT (bT tg K lb)) f (12 * j)).1.length) ∧ (gAt (nxT (bT tg K lb)) f (12 * i)).1[i]? = some x ∧ (gAt (nxT (bT tg K lb)) f (12 * i)).1.length ≤ 200 ∧ bS K G lb x = true ∧ (∀ j y : Nat, j < i → (gAt (nxT (bT tg K lb)) f (12 * i)).1[j]? = some y → bS K G lb y = false) ∧ r = (dp (gAt (nxT (bT tg K lb)) f (12 * i)) i : Int) ∧ μ' 51 25 = (x : Int) ∧ bQ (gAt (nxT (bT tg K lb)) f (12 * i)) N μ') ∨ (r = -1 ∧ ∃ i, (∀ j, j < i → j < (gAt (nxT (bT tg K lb)) f (12 * j)).1.length) ∧ (gAt (nxT (bT tg K lb)) f (12 * i)).1.length = i ∧ i ≤ 200 ∧ ∀ j y : Nat, j < i → (gAt (nxT (bT tg K lb)) f (12 * i)).1[j]? = some y → bS K G lb y = false)) ∧ sFr μ μ'))) false 0 μ1 44 [some (zp 51), some (zi (f : Int)), some (zi (zB lb)), some (zi ((gAt (nxT (bT tg K lb)) f (12 * i)).1.length : Int)), some (zi (i : Int)), none, none, none] [] := by
          intro d
          induction d using Nat.strongRecOn with
          | _ d ih44 =>
            intro i μ1 hd hQ hil hks hSn hq1
            have hT1 := rT_q hT (fun q h1 h2 => hq1 q (by omega))
            have hB1 := rBd_q hB (hq1 65 (by omega))
            have hlen := hQ.1
            refine zU_iload d_R_search_44 rfl ?_
            refine zU_iload_n d_R_search_46 rfl ?_
            refine zU_icmp_ge 216 d_R_search_47 (by decide) (by omega) (by omega) (fun h47 => ?_) (fun h47 => ?_)
            · refine zU_iconst d_R_search_216 ?_
              exact zU_ireturn d_R_search_217 (Or.inl rfl) (by decide) (by decide) (⟨_, rfl, Or.inr ⟨rfl, i, hks, by omega, by omega, hSn⟩, fun q h1 h2 => hq1 q h2, fun z hz => by rw [hq1 51 (by omega)]⟩)
            · obtain ⟨x, hxi⟩ : ∃ x, (gAt (nxT (bT tg K lb)) f (12 * i)).1[i]? = some x := ⟨_, List.getElem?_eq_getElem (by omega)⟩
              have hxN := (hQ.2.2 i x hxi).1
              refine zU_aload_n d_R_search_50 rfl ?_
              refine zU_getR 72 d_R_search_51 f_R_71 (by decide) rfl rfl rfl ?_
              refine zU_iload d_R_search_54 rfl ?_
              refine zU_iald (v := (x : Int)) d_R_search_56 (by decide) rfl (by decide) (by omega) ((hQ.2.2 i x hxi).2.1) ?_
              refine zU_istore d_R_search_57 (by decide) ?_
              refine zU.eqL (L' := [some (zp 51), some (zi (f : Int)), some (zi (zB lb)), some (zi ((gAt (nxT (bT tg K lb)) f (12 * i)).1.length : Int)), some (zi (i : Int)), some (zi ((x : Int))), none, none]) rfl ?_
              refine zU_iload_n d_R_search_59 rfl ?_
              have hJ86 : ∀ (_ : bS K G lb x = true), zU Γ b_R_search n_R 8 (some .int) [] (zRm 1 0 24) 0 0 (zFin Γ 0 false (zRi (fun r μ' => ((∃ i x : Nat, (∀ j, j ≤ i → j < (gAt (nxT (bT tg K lb)) f (12 * j)).1.length) ∧ (gAt (nxT (bT tg K lb)) f (12 * i)).1[i]? = some x ∧ (gAt (nxT (bT tg K lb)) f (12 * i)).1.length ≤ 200 ∧ bS K G lb x = true ∧ (∀ j y : Nat, j < i → (gAt (nxT (bT tg K lb)) f (12 * i)).1[j]? = some y → bS K G lb y = false) ∧ r = (dp (gAt (nxT (bT tg K lb)) f (12 * i)) i : Int) ∧ μ' 51 25 = (x : Int) ∧ bQ (gAt (nxT (bT tg K lb)) f (12 * i)) N μ') ∨ (r = -1 ∧ ∃ i, (∀ j, j < i → j < (gAt (nxT (bT tg K lb)) f (12 * j)).1.length) ∧ (gAt (nxT (bT tg K lb)) f (12 * i)).1.length = i ∧ i ≤ 200 ∧ ∀ j y : Nat, j < i → (gAt (nxT (bT tg K lb)) f (12 * i)).1[j]? = some y → bS K G lb y = false)) ∧ sFr μ μ'))) false 0 μ1 86 [some (zp 51), some (zi (f : Int)), some (zi (zB lb)), some (zi ((gAt (nxT (bT tg K lb)) f (12 * i)).1.length : Int)), some (zi (i : Int)), some (zi (x : Int)), none, none] [] := by
                intro hS
                refine zU_aload_n d_R_search_86 rfl ?_
                refine zU_iload d_R_search_87 rfl ?_
                refine zU_putI d_R_search_89 f_R_132 p_R_found (by decide) rfl rfl (Or.inl rfl) ?_
                refine zU.eqM (μ' := zup μ1 51 25 (x : Int)) rfl ?_
                refine zU_aload_n d_R_search_92 rfl ?_
                refine zU_getR 71 d_R_search_93 f_R_68 (by decide) rfl rfl rfl ?_
                refine zU_iload d_R_search_96 rfl ?_
                refine zU_iald (v := (dp (gAt (nxT (bT tg K lb)) f (12 * i)) i : Int)) d_R_search_98 (by decide) rfl (by decide) (by omega) (by rw [zup_ne _ _ _ (by decide)]; exact (hQ.2.2 i x hxi).2.2.1) ?_
                exact zU_ireturn d_R_search_99 (Or.inl rfl) (by decide) (by decide) (⟨_, rfl, Or.inl ⟨i, x, fun j hj => by by_cases hji : j = i; { rw [hji]; omega }; { exact hks j (by omega) }, hxi, by omega, hS, hSn, rfl, by rw [zup_at]; simp, bQ_congr hQ (fun q h1 h2 => by rw [zup_ne _ _ _ (by omega)])⟩, fun q h1 h2 => by rw [zup_ne _ _ _ h1]; exact hq1 q h2, fun z hz => by rw [zup_at, if_neg (by omega), hq1 51 (by omega)]⟩)
              have hJ100 : ∀ (_ : bS K G lb x = false), zU Γ b_R_search n_R 8 (some .int) [] (zRm 1 0 24) 0 0 (zFin Γ 0 false (zRi (fun r μ' => ((∃ i x : Nat, (∀ j, j ≤ i → j < (gAt (nxT (bT tg K lb)) f (12 * j)).1.length) ∧ (gAt (nxT (bT tg K lb)) f (12 * i)).1[i]? = some x ∧ (gAt (nxT (bT tg K lb)) f (12 * i)).1.length ≤ 200 ∧ bS K G lb x = true ∧ (∀ j y : Nat, j < i → (gAt (nxT (bT tg K lb)) f (12 * i)).1[j]? = some y → bS K G lb y = false) ∧ r = (dp (gAt (nxT (bT tg K lb)) f (12 * i)) i : Int) ∧ μ' 51 25 = (x : Int) ∧ bQ (gAt (nxT (bT tg K lb)) f (12 * i)) N μ') ∨ (r = -1 ∧ ∃ i, (∀ j, j < i → j < (gAt (nxT (bT tg K lb)) f (12 * j)).1.length) ∧ (gAt (nxT (bT tg K lb)) f (12 * i)).1.length = i ∧ i ≤ 200 ∧ ∀ j y : Nat, j < i → (gAt (nxT (bT tg K lb)) f (12 * i)).1[j]? = some y → bS K G lb y = false)) ∧ sFr μ μ'))) false 0 μ1 100 [some (zp 51), some (zi (f : Int)), some (zi (zB lb)), some (zi ((gAt (nxT (bT tg K lb)) f (12 * i)).1.length : Int)), some (zi (i : Int)), some (zi (x : Int)), none, none] [] := by
                intro hS
                refine zU_iconst d_R_search_100 ?_
                refine zU_istore d_R_search_101 (by decide) ?_
                refine zU.eqL (L' := [some (zp 51), some (zi (f : Int)), some (zi (zB lb)), some (zi ((gAt (nxT (bT tg K lb)) f (12 * i)).1.length : Int)), some (zi (i : Int)), some (zi (x : Int)), some (zi 0), none]) rfl ?_
                have hJ103 : ∀ (d : Nat) (e : Nat) (μ2 : zM), e + d = 12 → bQ (gAt (nxT (bT tg K lb)) f (12 * i + e)) N μ2 → (∀ q, (q < 69 ∨ 72 < q) → μ2 q = μ q) → zU Γ b_R_search n_R 8 (some .int) [] (zRm 1 0 24) 0 0 (zFin Γ 0 false (zRi (fun r μ' => ((∃ i x : Nat, (∀ j, j ≤ i → j < (gAt (nxT (bT tg K lb)) f (12 * j)).1.length) ∧ (gAt (nxT (bT tg K lb)) f (12 * i)).1[i]? = some x ∧ (gAt (nxT (bT tg K lb)) f (12 * i)).1.length ≤ 200 ∧ bS K G lb x = true ∧ (∀ j y : Nat, j < i → (gAt (nxT (bT tg K lb)) f (12 * i)).1[j]? = some y → bS K G lb y = false) ∧ r = (dp (gAt (nxT (bT tg K lb)) f (12 * i)) i : Int) ∧ μ' 51 25 = (x : Int) ∧ bQ (gAt (nxT (bT tg K lb)) f (12 * i)) N μ') ∨ (r = -1 ∧ ∃ i, (∀ j, j < i → j < (gAt (nxT (bT tg K lb)) f (12 * j)).1.length) ∧ (gAt (nxT (bT tg K lb)) f (12 * i)).1.length = i ∧ i ≤ 200 ∧ ∀ j y : Nat, j < i → (gAt (nxT (bT tg K lb)) f (12 * i)).1[j]? = some y → bS K G lb y = false)) ∧ sFr μ μ'))) false 0 μ2 103 [some (zp 51), some (zi (f : Int)), some (zi (zB lb)), some (zi ((gAt (nxT (bT tg K lb)) f (12 * i + e)).1.length : Int)), some (zi (i : Int)), some (zi (x : Int)), some (zi (e : Int)), none] [] := by
                  intro d
                  induction d using Nat.strongRecOn with
                  | _ d ih103 =>
                    intro e μ2 hd2 hQ2 hq2
                    have hT2 := rT_q hT (fun q h1 h2 => hq2 q (by omega))
                    have hB2 := rBd_q hB (hq2 65 (by omega))
                    have hx2 := gAt_get (show 12 * i ≤ 12 * i + e by omega) hxi
                    have hlen2 := hQ2.1
                    have hlx2 := (List.getElem?_eq_some_iff.mp hx2).1
                    refine zU_iload d_R_search_103 rfl ?_
                    refine zU_bipush d_R_search_105 (by decide) ?_
                    refine zU_icmp_ge 210 d_R_search_107 (by decide) (by omega) (by omega) (fun h107 => ?_) (fun h107 => ?_)
                    · have he12 : 12 * (i + 1) = 12 * i + e := by omega
                      refine zU.eqL (L' := [some (zp 51), some (zi (f : Int)), some (zi (zB lb)), some (zi ((gAt (nxT (bT tg K lb)) f (12 * (i + 1))).1.length : Int)), some (zi (i : Int)), some (zi (x : Int)), some (zi (e : Int)), none]) (congrArg (fun zz : Int => [some (zp 51), some (zi (f : Int)), some (zi (zB lb)), some (zi zz), some (zi (i : Int)), some (zi (x : Int)), some (zi (e : Int)), none]) (show (((gAt (nxT (bT tg K lb)) f (12 * i + e)).1.length : Int) : Int) = ((gAt (nxT (bT tg K lb)) f (12 * (i + 1))).1.length : Int) by rw [he12])) ?_
                      refine zU_iinc d_R_search_210 rfl ?_
                      refine zU.eqL (L' := [some (zp 51), some (zi (f : Int)), some (zi (zB lb)), some (zi ((gAt (nxT (bT tg K lb)) f (12 * (i + 1))).1.length : Int)), some (zi (((i + 1 : Nat) : Int))), some (zi (x : Int)), some (zi (e : Int)), none]) (by first | rfl | exact congrArg (fun zz : Int => [some (zp 51), some (zi (f : Int)), some (zi (zB lb)), some (zi ((gAt (nxT (bT tg K lb)) f (12 * (i + 1))).1.length : Int)), some (zi zz), some (zi (x : Int)), some (zi (e : Int)), none]) (show ((i : Int) + 1 : Int) = ((i + 1 : Nat) : Int) by omega)) ?_
                      refine zU_goto 44 d_R_search_213 (by decide) ?_
                      refine zU.drop 5 (L' := [some (zp 51), some (zi (f : Int)), some (zi (zB lb)), some (zi ((gAt (nxT (bT tg K lb)) f (12 * (i + 1))).1.length : Int)), some (zi (((i + 1 : Nat) : Int))), none, some (zi (e : Int)), none]) rfl ?_
                      refine zU.drop 6 (L' := [some (zp 51), some (zi (f : Int)), some (zi (zB lb)), some (zi ((gAt (nxT (bT tg K lb)) f (12 * (i + 1))).1.length : Int)), some (zi (((i + 1 : Nat) : Int))), none, none, none]) rfl ?_
                      exact ih44 (201 - (i + 1)) (by omega) (i + 1) μ2 (by omega) (by rw [he12]; exact hQ2) (by rw [he12]; omega) (fun j hj => by by_cases hji : j = i; { rw [hji]; omega }; { exact hks j (by omega) }) (fun j y hj hy => by by_cases hji : j = i; { rw [hji, he12, hx2] at hy; cases hy; exact hS }; { have h8 : j < (gAt (nxT (bT tg K lb)) f (12 * i)).1.length := (by omega); have h9 := gAt_get (show 12 * i ≤ 12 * (i + 1) by omega) (List.getElem?_eq_getElem h8); rw [hy] at h9; exact hSn j y (by omega) (by rw [List.getElem?_eq_getElem h8]; exact h9.symm) }) hq2
                    · have he : e < 12 := by omega
                      have hTl : bT tg K lb x e ≤ N := bT_le (((rT_0 hT2).2.2 x hxN).2 e he).1.2
                      refine zU_iload_n d_R_search_110 rfl ?_
                      have hJ139 : zU Γ b_R_search n_R 8 (some .int) [] (zRm 1 0 24) 0 0 (zFin Γ 0 false (zRi (fun r μ' => ((∃ i x : Nat, (∀ j, j ≤ i → j < (gAt (nxT (bT tg K lb)) f (12 * j)).1.length) ∧ (gAt (nxT (bT tg K lb)) f (12 * i)).1[i]? = some x ∧ (gAt (nxT (bT tg K lb)) f (12 * i)).1.length ≤ 200 ∧ bS K G lb x = true ∧ (∀ j y : Nat, j < i → (gAt (nxT (bT tg K lb)) f (12 * i)).1[j]? = some y → bS K G lb y = false) ∧ r = (dp (gAt (nxT (bT tg K lb)) f (12 * i)) i : Int) ∧ μ' 51 25 = (x : Int) ∧ bQ (gAt (nxT (bT tg K lb)) f (12 * i)) N μ') ∨ (r = -1 ∧ ∃ i, (∀ j, j < i → j < (gAt (nxT (bT tg K lb)) f (12 * j)).1.length) ∧ (gAt (nxT (bT tg K lb)) f (12 * i)).1.length = i ∧ i ≤ 200 ∧ ∀ j y : Nat, j < i → (gAt (nxT (bT tg K lb)) f (12 * i)).1[j]? = some y → bS K G lb y = false)) ∧ sFr μ μ'))) false 0 μ2 139 [some (zp 51), some (zi (f : Int)), some (zi (zB lb)), some (zi ((gAt (nxT (bT tg K lb)) f (12 * i + e)).1.length : Int)), some (zi (i : Int)), some (zi (x : Int)), some (zi (e : Int)), none] [zi ((bT tg K lb x e : Int) - 1)] := by
                        refine zU_istore d_R_search_139 (by decide) ?_
                        refine zU.eqL (L' := [some (zp 51), some (zi (f : Int)), some (zi (zB lb)), some (zi ((gAt (nxT (bT tg K lb)) f (12 * i + e)).1.length : Int)), some (zi (i : Int)), some (zi (x : Int)), some (zi (e : Int)), some (zi ((bT tg K lb x e : Int) - 1))]) rfl ?_
                        refine zU_iload d_R_search_141 rfl ?_
                        refine zU_if_lt 204 d_R_search_143 (by decide) (by omega) (fun h143 => ?_) (fun h143 => ?_)
                        · have hgo := bQ_go_none rfl hQ2 he hx2 (by omega)
                          refine zU.eqL (L' := [some (zp 51), some (zi (f : Int)), some (zi (zB lb)), some (zi ((gAt (nxT (bT tg K lb)) f (12 * i + (e + 1))).1.length : Int)), some (zi (i : Int)), some (zi (x : Int)), some (zi (e : Int)), some (zi ((bT tg K lb x e : Int) - 1))]) (congrArg (fun zz : Int => [some (zp 51), some (zi (f : Int)), some (zi (zB lb)), some (zi zz), some (zi (i : Int)), some (zi (x : Int)), some (zi (e : Int)), some (zi ((bT tg K lb x e : Int) - 1))]) (show (((gAt (nxT (bT tg K lb)) f (12 * i + e)).1.length : Int) : Int) = ((gAt (nxT (bT tg K lb)) f (12 * i + (e + 1))).1.length : Int) by rw [hgo.2])) ?_
                          refine zU_iinc d_R_search_204 rfl ?_
                          refine zU.eqL (L' := [some (zp 51), some (zi (f : Int)), some (zi (zB lb)), some (zi ((gAt (nxT (bT tg K lb)) f (12 * i + (e + 1))).1.length : Int)), some (zi (i : Int)), some (zi (x : Int)), some (zi (((e + 1 : Nat) : Int))), some (zi ((bT tg K lb x e : Int) - 1))]) (by first | rfl | exact congrArg (fun zz : Int => [some (zp 51), some (zi (f : Int)), some (zi (zB lb)), some (zi ((gAt (nxT (bT tg K lb)) f (12 * i + (e + 1))).1.length : Int)), some (zi (i : Int)), some (zi (x : Int)), some (zi zz), some (zi ((bT tg K lb x e : Int) - 1))]) (show ((e : Int) + 1 : Int) = ((e + 1 : Nat) : Int) by omega)) ?_
                          refine zU_goto 103 d_R_search_207 (by decide) ?_
                          refine zU.drop 7 (L' := [some (zp 51), some (zi (f : Int)), some (zi (zB lb)), some (zi ((gAt (nxT (bT tg K lb)) f (12 * i + (e + 1))).1.length : Int)), some (zi (i : Int)), some (zi (x : Int)), some (zi (((e + 1 : Nat) : Int))), none]) rfl ?_
                          exact ih103 (d - 1) (by omega) (e + 1) μ2 (by omega) hgo.1 hq2
                        · have hyN : (bT tg K lb x e - 1) < N := by omega
                          have hr2 := bQ_r hQ2 hyN
                          refine zU_aload_n d_R_search_146 rfl ?_
                          refine zU_getR 71 d_R_search_147 f_R_68 (by decide) rfl rfl rfl ?_
                          refine zU_iload d_R_search_150 rfl ?_
                          refine zU_iald (v := μ2 71 (bT tg K lb x e - 1)) d_R_search_152 (by decide) rfl (by decide) (by omega) (by rw [show ((bT tg K lb x e : Int) - 1).toNat = (bT tg K lb x e - 1) by omega]) ?_
                          refine zU_if_lt 159 d_R_search_153 (by decide) (by omega) (fun h153 => ?_) (fun h153 => ?_)
                          · have hno : (bT tg K lb x e - 1) ∉ (gAt (nxT (bT tg K lb)) f (12 * i + e)).1 := by rcases hr2 with h | h; exfalso; omega; exact h.1
                            have hroom := bQ_room hQ2 hyN hno
                            refine zU.eqL (L' := [some (zp 51), some (zi (f : Int)), some (zi (zB lb)), some (zi ((gAt (nxT (bT tg K lb)) f (12 * i + e)).1.length : Int)), some (zi (i : Int)), some (zi (x : Int)), some (zi (e : Int)), some (zi (((bT tg K lb x e - 1) : Nat) : Int))]) (congrArg (fun zz : Int => [some (zp 51), some (zi (f : Int)), some (zi (zB lb)), some (zi ((gAt (nxT (bT tg K lb)) f (12 * i + e)).1.length : Int)), some (zi (i : Int)), some (zi (x : Int)), some (zi (e : Int)), some (zi zz)]) (show ((bT tg K lb x e : Int) - 1 : Int) = (((bT tg K lb x e - 1) : Nat) : Int) by omega)) ?_
                            refine zU_aload_n d_R_search_159 rfl ?_
                            refine zU_getR 71 d_R_search_160 f_R_68 (by decide) rfl rfl rfl ?_
                            refine zU_iload d_R_search_163 rfl ?_
                            refine zU_aload_n d_R_search_165 rfl ?_
                            refine zU_getR 71 d_R_search_166 f_R_68 (by decide) rfl rfl rfl ?_
                            refine zU_iload d_R_search_169 rfl ?_
                            refine zU_iald (v := (dp (gAt (nxT (bT tg K lb)) f (12 * i + e)) i : Int)) d_R_search_171 (by decide) rfl (by decide) (by omega) ((hQ2.2.2 i x hx2).2.2.1) ?_
                            refine zU_iconst d_R_search_172 ?_
                            refine zU_iadd d_R_search_173 ?_
                            refine zU_iast d_R_search_174 (by decide) rfl (by decide) (by omega) ?_
                            refine zU.eqM (μ' := (zup μ2 71 (bT tg K lb x e - 1) ((dp (gAt (nxT (bT tg K lb)) f (12 * i + e)) i : Int) + 1))) rfl ?_
                            refine zU_aload_n d_R_search_175 rfl ?_
                            refine zU_getR 69 d_R_search_176 f_R_62 (by decide) rfl rfl rfl ?_
                            refine zU_iload d_R_search_179 rfl ?_
                            refine zU_iload d_R_search_181 rfl ?_
                            refine zU_iast d_R_search_183 (by decide) rfl (by decide) (by omega) ?_
                            refine zU.eqM (μ' := (zup (zup μ2 71 (bT tg K lb x e - 1) ((dp (gAt (nxT (bT tg K lb)) f (12 * i + e)) i : Int) + 1)) 69 (bT tg K lb x e - 1) (x : Int))) rfl ?_
                            refine zU_aload_n d_R_search_184 rfl ?_
                            refine zU_getR 70 d_R_search_185 f_R_65 (by decide) rfl rfl rfl ?_
                            refine zU_iload d_R_search_188 rfl ?_
                            refine zU_iload d_R_search_190 rfl ?_
                            refine zU_iast d_R_search_192 (by decide) rfl (by decide) (by omega) ?_
                            refine zU.eqM (μ' := (zup (zup (zup μ2 71 (bT tg K lb x e - 1) ((dp (gAt (nxT (bT tg K lb)) f (12 * i + e)) i : Int) + 1)) 69 (bT tg K lb x e - 1) (x : Int)) 70 (bT tg K lb x e - 1) (e : Int))) rfl ?_
                            refine zU_aload_n d_R_search_193 rfl ?_
                            refine zU_getR 72 d_R_search_194 f_R_71 (by decide) rfl rfl rfl ?_
                            refine zU_iload_n d_R_search_197 rfl ?_
                            refine zU_iload d_R_search_198 rfl ?_
                            refine zU_iast d_R_search_200 (by decide) rfl (by decide) (by omega) ?_
                            obtain ⟨μ4, hμ4⟩ : ∃ μ4, μ4 = (zup (zup (zup (zup μ2 71 (bT tg K lb x e - 1) ((dp (gAt (nxT (bT tg K lb)) f (12 * i + e)) i : Int) + 1)) 69 (bT tg K lb x e - 1) (x : Int)) 70 (bT tg K lb x e - 1) (e : Int)) 72 (gAt (nxT (bT tg K lb)) f (12 * i + e)).1.length (((bT tg K lb x e - 1) : Nat) : Int)) := ⟨_, rfl⟩
                            refine zU.eqM (μ' := μ4) hμ4.symm ?_
                            have hq4 : ∀ q, (q < 69 ∨ 72 < q) → μ4 q = μ q := fun q hq => by rw [hμ4, zup_ne _ _ _ (by omega), zup_ne _ _ _ (by omega), zup_ne _ _ _ (by omega), zup_ne _ _ _ (by omega)]; exact hq2 q hq
                            refine zU_iinc d_R_search_201 rfl ?_
                            refine zU.eqL (L' := [some (zp 51), some (zi (f : Int)), some (zi (zB lb)), some (zi ((((gAt (nxT (bT tg K lb)) f (12 * i + e)).1.length + 1 : Nat) : Int))), some (zi (i : Int)), some (zi (x : Int)), some (zi (e : Int)), some (zi (((bT tg K lb x e - 1) : Nat) : Int))]) (by first | rfl | exact congrArg (fun zz : Int => [some (zp 51), some (zi (f : Int)), some (zi (zB lb)), some (zi zz), some (zi (i : Int)), some (zi (x : Int)), some (zi (e : Int)), some (zi (((bT tg K lb x e - 1) : Nat) : Int))]) (show (((gAt (nxT (bT tg K lb)) f (12 * i + e)).1.length : Int) + 1 : Int) = (((gAt (nxT (bT tg K lb)) f (12 * i + e)).1.length + 1 : Nat) : Int) by omega)) ?_
                            have hgo := bQ_go_new (μ' := μ4) rfl hQ2 hN he hx2 (by omega) hyN hno (fun z => by rw [hμ4, zup_ne _ _ _ (by decide), zup_ne _ _ _ (by decide), zup_ne _ _ _ (by decide), zup_at]; simp) (fun z => by rw [hμ4, zup_ne _ _ _ (by decide), zup_ne _ _ _ (by decide), zup_at, zup_ne _ _ _ (by decide)]; simp) (fun z => by rw [hμ4, zup_ne _ _ _ (by decide), zup_at, zup_ne _ _ _ (by decide), zup_ne _ _ _ (by decide)]; simp) (fun z => by rw [hμ4, zup_at, zup_ne _ _ _ (by decide), zup_ne _ _ _ (by decide), zup_ne _ _ _ (by decide)]; simp)
                            refine zU.eqL (L' := [some (zp 51), some (zi (f : Int)), some (zi (zB lb)), some (zi ((gAt (nxT (bT tg K lb)) f (12 * i + (e + 1))).1.length : Int)), some (zi (i : Int)), some (zi (x : Int)), some (zi (e : Int)), some (zi (((bT tg K lb x e - 1) : Nat) : Int))]) (congrArg (fun zz : Int => [some (zp 51), some (zi (f : Int)), some (zi (zB lb)), some (zi zz), some (zi (i : Int)), some (zi (x : Int)), some (zi (e : Int)), some (zi (((bT tg K lb x e - 1) : Nat) : Int))]) (show ((((gAt (nxT (bT tg K lb)) f (12 * i + e)).1.length + 1 : Nat) : Int) : Int) = ((gAt (nxT (bT tg K lb)) f (12 * i + (e + 1))).1.length : Int) by rw [hgo.2])) ?_
                            refine zU_iinc d_R_search_204 rfl ?_
                            refine zU.eqL (L' := [some (zp 51), some (zi (f : Int)), some (zi (zB lb)), some (zi ((gAt (nxT (bT tg K lb)) f (12 * i + (e + 1))).1.length : Int)), some (zi (i : Int)), some (zi (x : Int)), some (zi (((e + 1 : Nat) : Int))), some (zi (((bT tg K lb x e - 1) : Nat) : Int))]) (by first | rfl | exact congrArg (fun zz : Int => [some (zp 51), some (zi (f : Int)), some (zi (zB lb)), some (zi ((gAt (nxT (bT tg K lb)) f (12 * i + (e + 1))).1.length : Int)), some (zi (i : Int)), some (zi (x : Int)), some (zi zz), some (zi (((bT tg K lb x e - 1) : Nat) : Int))]) (show ((e : Int) + 1 : Int) = ((e + 1 : Nat) : Int) by omega)) ?_
                            refine zU_goto 103 d_R_search_207 (by decide) ?_
                            refine zU.drop 7 (L' := [some (zp 51), some (zi (f : Int)), some (zi (zB lb)), some (zi ((gAt (nxT (bT tg K lb)) f (12 * i + (e + 1))).1.length : Int)), some (zi (i : Int)), some (zi (x : Int)), some (zi (((e + 1 : Nat) : Int))), none]) rfl ?_
                            exact ih103 (d - 1) (by omega) (e + 1) μ4 (by omega) hgo.1 hq4
                          · refine zU_goto 204 d_R_search_156 (by decide) ?_
                            have hgo := bQ_go_old rfl hQ2 he hx2 (by omega) (by rcases hr2 with h | h; exact h.1; exfalso; omega)
                            refine zU.eqL (L' := [some (zp 51), some (zi (f : Int)), some (zi (zB lb)), some (zi ((gAt (nxT (bT tg K lb)) f (12 * i + (e + 1))).1.length : Int)), some (zi (i : Int)), some (zi (x : Int)), some (zi (e : Int)), some (zi ((bT tg K lb x e : Int) - 1))]) (congrArg (fun zz : Int => [some (zp 51), some (zi (f : Int)), some (zi (zB lb)), some (zi zz), some (zi (i : Int)), some (zi (x : Int)), some (zi (e : Int)), some (zi ((bT tg K lb x e : Int) - 1))]) (show (((gAt (nxT (bT tg K lb)) f (12 * i + e)).1.length : Int) : Int) = ((gAt (nxT (bT tg K lb)) f (12 * i + (e + 1))).1.length : Int) by rw [hgo.2])) ?_
                            refine zU_iinc d_R_search_204 rfl ?_
                            refine zU.eqL (L' := [some (zp 51), some (zi (f : Int)), some (zi (zB lb)), some (zi ((gAt (nxT (bT tg K lb)) f (12 * i + (e + 1))).1.length : Int)), some (zi (i : Int)), some (zi (x : Int)), some (zi (((e + 1 : Nat) : Int))), some (zi ((bT tg K lb x e : Int) - 1))]) (by first | rfl | exact congrArg (fun zz : Int => [some (zp 51), some (zi (f : Int)), some (zi (zB lb)), some (zi ((gAt (nxT (bT tg K lb)) f (12 * i + (e + 1))).1.length : Int)), some (zi (i : Int)), some (zi (x : Int)), some (zi zz), some (zi ((bT tg K lb x e : Int) - 1))]) (show ((e : Int) + 1 : Int) = ((e + 1 : Nat) : Int) by omega)) ?_
                            refine zU_goto 103 d_R_search_207 (by decide) ?_
                            refine zU.drop 7 (L' := [some (zp 51), some (zi (f : Int)), some (zi (zB lb)), some (zi ((gAt (nxT (bT tg K lb)) f (12 * i + (e + 1))).1.length : Int)), some (zi (i : Int)), some (zi (x : Int)), some (zi (((e + 1 : Nat) : Int))), none]) rfl ?_
                            exact ih103 (d - 1) (by omega) (e + 1) μ2 (by omega) hgo.1 hq2
                      refine zU_if_eq 130 d_R_search_111 (by decide) (zBr _) (fun h111 => ?_) (fun h111 => ?_)
                      · have b111 := zB_zero.mp h111
                        refine zU_aload_n d_R_search_130 rfl ?_
                        refine zU_iconst d_R_search_131 ?_
                        refine zU_iload d_R_search_132 rfl ?_
                        refine zU_iload d_R_search_134 rfl ?_
                        refine zU_callVi (p0 := 51) [zi 0, zi (x : Int), zi (e : Int)] d_R_search_136 k_R_135 rfl (by decide) rfl rfl (by decide) (Nat.le_of_ble_eq_true rfl) (fun l => m_R_good l μ2 (B := C) (w := 0) (by omega) hT2 hB2 (k := x) (e := e) hxN he) (fun r136 μ136 h136 => ?_)
                        obtain ⟨hμ136, rfl⟩ := h136
                        replace hμ136 := hμ136.symm
                        subst hμ136
                        refine zU.eqS (st' := [zi ((bT tg K lb x e : Int) - 1)]) (by simp [bT, b111]) ?_
                        exact hJ139 
                      · have b111 := zB_nz.mp h111
                        refine zU_aload_n d_R_search_114 rfl ?_
                        refine zU_getR 62 d_R_search_115 f_R_41 (by decide) rfl rfl rfl ?_
                        refine zU_bipush d_R_search_118 (by decide) ?_
                        refine zU_iload d_R_search_120 rfl ?_
                        refine zU_imul d_R_search_122 ?_
                        refine zU_iload d_R_search_123 rfl ?_
                        refine zU_iadd d_R_search_125 ?_
                        refine zU_iald (v := (tg x e : Int) - 1) d_R_search_126 (by decide) rfl (by decide) (by omega) (by rw [show ((12 * (x : Int)) + (e : Int)).toNat = 12 * x + e by omega]; exact (((rT_0 hT2).2.2 x hxN).2 e he).1.1) ?_
                        refine zU_goto 139 d_R_search_127 (by decide) ?_
                        refine zU.eqS (st' := [zi ((bT tg K lb x e : Int) - 1)]) (by simp [bT, b111]) ?_
                        exact hJ139 
                exact hJ103 12 0 μ1 (by omega) hQ hq1
              refine zU_if_eq 76 d_R_search_60 (by decide) (zBr _) (fun h60 => ?_) (fun h60 => ?_)
              · have b60 := zB_zero.mp h60
                refine zU_aload_n d_R_search_76 rfl ?_
                refine zU_getR 64 d_R_search_77 f_R_47 (by decide) rfl rfl rfl ?_
                refine zU_iload d_R_search_80 rfl ?_
                refine zU_zald (v := zB (G x)) d_R_search_82 (by decide) rfl (by decide) (by omega) (((rT_0 hT1).2.2 x hxN).1) ?_
                refine zU_if_eq 100 d_R_search_83 (by decide) (zBr _) (fun h83 => ?_) (fun h83 => ?_)
                · have b83 := zB_zero.mp h83
                  exact hJ100 (by simp [bS, b60, b83])
                · have b83 := zB_nz.mp h83
                  exact hJ86 (by simp [bS, b60, b83])
              · have b60 := zB_nz.mp h60
                refine zU_aload_n d_R_search_63 rfl ?_
                refine zU_getR 65 d_R_search_64 f_R_50 (by decide) rfl rfl rfl ?_
                refine zU_iload d_R_search_67 rfl ?_
                refine zU_zald (v := zB (!K x)) d_R_search_69 (by decide) rfl (by decide) (by omega) (rB_0 hB1 x hxN) ?_
                refine zU_if_eq 100 d_R_search_70 (by decide) (zBr _) (fun h70 => ?_) (fun h70 => ?_)
                · have b70 := zB_zero.mp h70
                  exact hJ100 (by simp [bS, b60]; simpa using b70)
                · have b70 := zB_nz.mp h70
                  refine zU_goto 86 d_R_search_73 (by decide) ?_
                  exact hJ86 (by simp [bS, b60]; simpa using b70)
        exact hJ44 201 0 μ3 (by omega) hQ3 (by omega) (fun j hj => absurd hj (by omega)) (fun j y hj => absurd hj (by omega)) hq3
      · refine zU_aload_n d_R_search_12 rfl ?_
        refine zU_getR 71 d_R_search_13 f_R_68 (by decide) rfl rfl rfl ?_
        refine zU_iload_n d_R_search_16 rfl ?_
        refine zU_iconst d_R_search_17 ?_
        refine zU_iast d_R_search_18 (by decide) rfl (by decide) (by omega) ?_
        refine zU.eqM (μ' := zup μ1 71 k (-1)) rfl ?_
        refine zU_iinc d_R_search_19 rfl ?_
        refine zU.eqL (L' := [some (zp 51), some (zi (f : Int)), some (zi (zB lb)), some (zi (((k + 1 : Nat) : Int))), none, none, none, none]) (by first | rfl | exact congrArg (fun zz : Int => [some (zp 51), some (zi (f : Int)), some (zi (zB lb)), some (zi zz), none, none, none, none]) (show ((k : Int) + 1 : Int) = ((k + 1 : Nat) : Int) by omega)) ?_
        refine zU_goto 2 d_R_search_22 (by decide) ?_
        exact ih2 (d - 1) (by omega) (k + 1) _ (by omega) (fun j hj => by rw [zup_at]; by_cases hjk : j = k; { rw [if_pos ⟨rfl, hjk⟩] }; { rw [if_neg (by omega)]; exact h71 j (by omega) }) (fun q hq => by rw [zup_ne _ _ _ hq]; exact hq1 q hq)
  refine zU.loose ?_
  exact hJ2 N 0 μ (by omega) (fun j hj => absurd hj (by omega)) (fun _ _ => rfl)
