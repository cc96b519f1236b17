set_option maxRecDepth 100000 in
set_option maxHeartbeats 4000000 in
theorem m_R_comesHome (l : Launch) (μ : zM) {N1 N2 : Nat} {tg1 tg2 : Nat → Nat → Nat} {U1 U2 : Nat → Nat → Bool} {C G1 G2 K1 K2 : Nat → Bool} (hT1 : rT N1 tg1 U1 C G1 1 μ) (hB1 : rBd 1 N1 K1 μ) (hT2 : rT N2 tg2 U2 C G2 2 μ) (hB2 : rBd 2 N2 K2 μ) {n : Nat} (hF : gFin (nxQ (ktg tg1 K1) (ktg tg2 K2)) 0 n) (hn : n ≤ 200) (hP : rPr (gAt (nxQ (ktg tg1 K1) (ktg tg2 K2)) 0 (12 * n)).1 μ) (hok : ∀ p ∈ (gAt (nxQ (ktg tg1 K1) (ktg tg2 K2)) 0 (12 * n)).1, p / 256 < N1 ∧ p % 256 < N2) {f : Nat} (hf : f < n) :
    zC l y_R_comesHome b_R_comesHome 9 (some .boolean) [] 1 0 24 false [zp 51, zi (f : Int)] μ (zRi (fun r μ' => ((r = 1 ∧ ∃ d, rch (gtg (gAt (nxQ (ktg tg1 K1) (ktg tg2 K2)) 0 (12 * n))) (fun _ => true) (pGo (gAt (nxQ (ktg tg1 K1) (ktg tg2 K2)) 0 (12 * n)).1 G1 G2) d f = true) ∨ (r = 0 ∧ ∀ d, rch (gtg (gAt (nxQ (ktg tg1 K1) (ktg tg2 K2)) 0 (12 * n))) (fun _ => true) (pGo (gAt (nxQ (ktg tg1 K1) (ktg tg2 K2)) 0 (12 * n)).1 G1 G2) d f = false)) ∧ ∀ q, q ≠ 71 → q ≠ 72 → μ' q = μ q)) := by
  refine zC.of (own := n_R) (L := [some (zp 51), some (zi (f : Int)), none, none, none, none, none, none, none]) (by decide) rfl (by simp [zcat]) (Nat.le_of_ble_eq_true rfl) rfl (fun Γ => ?_)
  have hN1 := hT1.2.1
  have hN2 := hT2.2.1
  have hgl : (gAt (nxQ (ktg tg1 K1) (ktg tg2 K2)) 0 (12 * n)).1.length = n := hF.1
  have hPb : ∀ k p : Nat, (gAt (nxQ (ktg tg1 K1) (ktg tg2 K2)) 0 (12 * n)).1[k]? = some p → p < 65536 := fun k p h => by have := hok p (List.mem_of_getElem? h); omega
  refine zU_iconst d_R_comesHome_0 ?_
  refine zU_istore_n d_R_comesHome_1 (by decide) ?_
  refine zU.eqL (L' := [some (zp 51), some (zi (f : Int)), some (zi 0), none, none, none, none, none, none]) rfl ?_
  have hJ2 : ∀ (d : Nat) (z : Nat) (μ1 : zM), z + d = n → (∀ j, j < z → μ1 71 j = -1) → (∀ q, q ≠ 71 → μ1 q = μ q) → zU Γ b_R_comesHome n_R 9 (some .boolean) [] (zRm 1 0 24) 0 0 (zFin Γ 0 false (zRi (fun r μ' => ((r = 1 ∧ ∃ d, rch (gtg (gAt (nxQ (ktg tg1 K1) (ktg tg2 K2)) 0 (12 * n))) (fun _ => true) (pGo (gAt (nxQ (ktg tg1 K1) (ktg tg2 K2)) 0 (12 * n)).1 G1 G2) d f = true) ∨ (r = 0 ∧ ∀ d, rch (gtg (gAt (nxQ (ktg tg1 K1) (ktg tg2 K2)) 0 (12 * n))) (fun _ => true) (pGo (gAt (nxQ (ktg tg1 K1) (ktg tg2 K2)) 0 (12 * n)).1 G1 G2) d f = false)) ∧ ∀ q, q ≠ 71 → q ≠ 72 → μ' q = μ q))) false 0 μ1 2 [some (zp 51), some (zi (f : Int)), some (zi (z : Int)), none, none, none, none, none, none] [] := by
    intro d
    induction d using Nat.strongRecOn with
    | _ d ih2 =>
      intro z μ1 hd h71 hq1
      refine zU_iload_n d_R_comesHome_2 rfl ?_
      refine zU_aload_n d_R_comesHome_3 rfl ?_
      refine zU_getI (v := (n : Int)) d_R_comesHome_4 f_R_164 (by decide) rfl rfl (by rw [hq1 51 (by decide), hP.1, hgl]) ?_
      refine zU_icmp_ge 23 d_R_comesHome_7 (by decide) (by omega) (by omega) (fun h7 => ?_) (fun h7 => ?_)
      · refine zU_aload_n d_R_comesHome_23 rfl ?_
        refine zU_getR 71 d_R_comesHome_24 f_R_68 (by decide) rfl rfl rfl ?_
        refine zU_iload_n d_R_comesHome_27 rfl ?_
        refine zU_iconst d_R_comesHome_28 ?_
        refine zU_iast d_R_comesHome_29 (by decide) rfl (by decide) (by omega) ?_
        refine zU.eqM (μ' := zup μ1 71 f 0) rfl ?_
        refine zU_aload_n d_R_comesHome_30 rfl ?_
        refine zU_getR 72 d_R_comesHome_31 f_R_71 (by decide) rfl rfl rfl ?_
        refine zU_iconst d_R_comesHome_34 ?_
        refine zU_iload_n d_R_comesHome_35 rfl ?_
        refine zU_iast d_R_comesHome_36 (by decide) rfl (by decide) (by omega) ?_
        obtain ⟨μ3, hμ3⟩ : ∃ μ3, μ3 = zup (zup μ1 71 f 0) 72 0 (f : Int) := ⟨_, rfl⟩
        refine zU.eqM (μ' := μ3) hμ3.symm ?_
        have hq3 : ∀ q, q ≠ 71 → q ≠ 72 → μ3 q = μ q := fun q h1 h2 => by rw [hμ3, zup_ne _ _ _ h2, zup_ne _ _ _ h1]; exact hq1 q h1
        have hQ3 : bP (gAt (nxT (gtg (gAt (nxQ (ktg tg1 K1) (ktg tg2 K2)) 0 (12 * n)))) f 0).1 n μ3 := by rw [hμ3]; exact bP_0 hf (fun j hj => h71 j (by omega))
        refine zU_iconst d_R_comesHome_37 ?_
        refine zU_istore_n d_R_comesHome_38 (by decide) ?_
        refine zU.eqL (L' := [some (zp 51), some (zi (f : Int)), some (zi 1), none, none, none, none, none, none]) rfl ?_
        refine zU_iconst d_R_comesHome_39 ?_
        refine zU_istore_n d_R_comesHome_40 (by decide) ?_
        refine zU.eqL (L' := [some (zp 51), some (zi (f : Int)), some (zi 1), some (zi 0), none, none, none, none, none]) rfl ?_
        have hJ41 : ∀ (d : Nat) (i : Nat) (μ1 : zM), i + d = 201 → bP (gAt (nxT (gtg (gAt (nxQ (ktg tg1 K1) (ktg tg2 K2)) 0 (12 * n)))) f (12 * i)).1 n μ1 → i ≤ (gAt (nxT (gtg (gAt (nxQ (ktg tg1 K1) (ktg tg2 K2)) 0 (12 * n)))) f (12 * i)).1.length → (∀ j, j < i → j < (gAt (nxT (gtg (gAt (nxQ (ktg tg1 K1) (ktg tg2 K2)) 0 (12 * n)))) f (12 * j)).1.length) → (∀ j y : Nat, j < i → (gAt (nxT (gtg (gAt (nxQ (ktg tg1 K1) (ktg tg2 K2)) 0 (12 * n)))) f (12 * i)).1[j]? = some y → pGo (gAt (nxQ (ktg tg1 K1) (ktg tg2 K2)) 0 (12 * n)).1 G1 G2 y = false) → (∀ q, q ≠ 71 → q ≠ 72 → μ1 q = μ q) → zU Γ b_R_comesHome n_R 9 (some .boolean) [] (zRm 1 0 24) 0 0 (zFin Γ 0 false (zRi (fun r μ' => ((r = 1 ∧ ∃ d, rch (gtg (gAt (nxQ (ktg tg1 K1) (ktg tg2 K2)) 0 (12 * n))) (fun _ => true) (pGo (gAt (nxQ (ktg tg1 K1) (ktg tg2 K2)) 0 (12 * n)).1 G1 G2) d f = true) ∨ (r = 0 ∧ ∀ d, rch (gtg (gAt (nxQ (ktg tg1 K1) (ktg tg2 K2)) 0 (12 * n))) (fun _ => true) (pGo (gAt (nxQ (ktg tg1 K1) (ktg tg2 K2)) 0 (12 * n)).1 G1 G2) d f = false)) ∧ ∀ q, q ≠ 71 → q ≠ 72 → μ' q = μ q))) false 0 μ1 41 [some (zp 51), some (zi (f : Int)), some (zi ((gAt (nxT (gtg (gAt (nxQ (ktg tg1 K1) (ktg tg2 K2)) 0 (12 * n)))) f (12 * i)).1.length : Int)), some (zi (i : Int)), none, none, none, none, none] [] := by
          intro d
          induction d using Nat.strongRecOn with
          | _ d ih41 =>
            intro i μ1 hd hQ hil hks hSn hq1
            have hlen := hQ.1
            refine zU_iload_n d_R_comesHome_41 rfl ?_
            refine zU_iload_n d_R_comesHome_42 rfl ?_
            refine zU_icmp_ge 209 d_R_comesHome_43 (by decide) (by omega) (by omega) (fun h43 => ?_) (fun h43 => ?_)
            · refine zU_iconst d_R_comesHome_209 ?_
              exact zU_ireturn d_R_comesHome_210 (Or.inr ⟨rfl, by omega⟩) (by decide) (by decide) (⟨_, rfl, Or.inr ⟨rfl, bReach_no (i := i) (by omega) hks hSn (by omega)⟩, hq1⟩)
            · obtain ⟨k, hxi⟩ : ∃ k, (gAt (nxT (gtg (gAt (nxQ (ktg tg1 K1) (ktg tg2 K2)) 0 (12 * n)))) f (12 * i)).1[i]? = some k := ⟨_, List.getElem?_eq_getElem (by omega)⟩
              have hkn := (hQ.2.2 i k hxi).1
              obtain ⟨p, hp⟩ : ∃ p, (gAt (nxQ (ktg tg1 K1) (ktg tg2 K2)) 0 (12 * n)).1[k]? = some p := ⟨_, List.getElem?_eq_getElem (by omega)⟩
              have hpk := hok p (List.mem_of_getElem? hp)
              refine zU_aload_n d_R_comesHome_46 rfl ?_
              refine zU_getR 72 d_R_comesHome_47 f_R_71 (by decide) rfl rfl rfl ?_
              refine zU_iload_n d_R_comesHome_50 rfl ?_
              refine zU_iald (v := (k : Int)) d_R_comesHome_51 (by decide) rfl (by decide) (by omega) ((hQ.2.2 i k hxi).2.1) ?_
              refine zU_istore d_R_comesHome_52 (by decide) ?_
              refine zU.eqL (L' := [some (zp 51), some (zi (f : Int)), some (zi ((gAt (nxT (gtg (gAt (nxQ (ktg tg1 K1) (ktg tg2 K2)) 0 (12 * n)))) f (12 * i)).1.length : Int)), some (zi (i : Int)), some (zi ((k : Int))), none, none, none, none]) rfl ?_
              refine zU_aload_n d_R_comesHome_54 rfl ?_
              refine zU_getR 64 d_R_comesHome_55 f_R_47 (by decide) rfl rfl rfl ?_
              refine zU_sipush d_R_comesHome_58 (by decide) ?_
              refine zU_aload_n d_R_comesHome_61 rfl ?_
              refine zU_getR 74 d_R_comesHome_62 f_R_77 (by decide) rfl rfl rfl ?_
              refine zU_iload d_R_comesHome_65 rfl ?_
              refine zU_iald (v := ((p / 256 : Nat) : Int)) d_R_comesHome_67 (by decide) rfl (by decide) (by omega) (by rw [hq1 74 (by decide) (by decide)]; exact (hP.2.2 k p hp).1) ?_
              refine zU_iadd d_R_comesHome_68 ?_
              refine zU_zald (v := zB (G1 (p / 256))) d_R_comesHome_69 (by decide) rfl (by decide) (by omega) (by rw [show (200 + ((p / 256 : Nat) : Int)).toNat = 200 * 1 + p / 256 by omega, hq1 64 (by decide) (by decide)]; exact (hT1.2.2 _ hpk.1).1) ?_
              have hJ94 : ∀ (_ : pGo (gAt (nxQ (ktg tg1 K1) (ktg tg2 K2)) 0 (12 * n)).1 G1 G2 k = false), zU Γ b_R_comesHome n_R 9 (some .boolean) [] (zRm 1 0 24) 0 0 (zFin Γ 0 false (zRi (fun r μ' => ((r = 1 ∧ ∃ d, rch (gtg (gAt (nxQ (ktg tg1 K1) (ktg tg2 K2)) 0 (12 * n))) (fun _ => true) (pGo (gAt (nxQ (ktg tg1 K1) (ktg tg2 K2)) 0 (12 * n)).1 G1 G2) d f = true) ∨ (r = 0 ∧ ∀ d, rch (gtg (gAt (nxQ (ktg tg1 K1) (ktg tg2 K2)) 0 (12 * n))) (fun _ => true) (pGo (gAt (nxQ (ktg tg1 K1) (ktg tg2 K2)) 0 (12 * n)).1 G1 G2) d f = false)) ∧ ∀ q, q ≠ 71 → q ≠ 72 → μ' q = μ q))) false 0 μ1 94 [some (zp 51), some (zi (f : Int)), some (zi ((gAt (nxT (gtg (gAt (nxQ (ktg tg1 K1) (ktg tg2 K2)) 0 (12 * n)))) f (12 * i)).1.length : Int)), some (zi (i : Int)), some (zi (k : Int)), none, none, none, none] [] := by
                intro hS
                refine zU_iconst d_R_comesHome_94 ?_
                refine zU_istore d_R_comesHome_95 (by decide) ?_
                refine zU.eqL (L' := [some (zp 51), some (zi (f : Int)), some (zi ((gAt (nxT (gtg (gAt (nxQ (ktg tg1 K1) (ktg tg2 K2)) 0 (12 * n)))) f (12 * i)).1.length : Int)), some (zi (i : Int)), some (zi (k : Int)), some (zi 0), none, none, none]) rfl ?_
                have hJ97 : ∀ (d : Nat) (e : Nat) (μ2 : zM), e + d = 12 → bP (gAt (nxT (gtg (gAt (nxQ (ktg tg1 K1) (ktg tg2 K2)) 0 (12 * n)))) f (12 * i + e)).1 n μ2 → (∀ q, q ≠ 71 → q ≠ 72 → μ2 q = μ q) → zU Γ b_R_comesHome n_R 9 (some .boolean) [] (zRm 1 0 24) 0 0 (zFin Γ 0 false (zRi (fun r μ' => ((r = 1 ∧ ∃ d, rch (gtg (gAt (nxQ (ktg tg1 K1) (ktg tg2 K2)) 0 (12 * n))) (fun _ => true) (pGo (gAt (nxQ (ktg tg1 K1) (ktg tg2 K2)) 0 (12 * n)).1 G1 G2) d f = true) ∨ (r = 0 ∧ ∀ d, rch (gtg (gAt (nxQ (ktg tg1 K1) (ktg tg2 K2)) 0 (12 * n))) (fun _ => true) (pGo (gAt (nxQ (ktg tg1 K1) (ktg tg2 K2)) 0 (12 * n)).1 G1 G2) d f = false)) ∧ ∀ q, q ≠ 71 → q ≠ 72 → μ' q = μ q))) false 0 μ2 97 [some (zp 51), some (zi (f : Int)), some (zi ((gAt (nxT (gtg (gAt (nxQ (ktg tg1 K1) (ktg tg2 K2)) 0 (12 * n)))) f (12 * i + e)).1.length : Int)), some (zi (i : Int)), some (zi (k : Int)), some (zi (e : Int)), none, none, none] [] := by
                  intro d
                  induction d using Nat.strongRecOn with
                  | _ d ih97 =>
                    intro e μ2 hd2 hQ2 hq2
                    have hTa := rT_q hT1 (fun q h1 h2 => hq2 q (by omega) (by omega))
                    have hBa := rBd_q hB1 (hq2 65 (by decide) (by decide))
                    have hTb := rT_q hT2 (fun q h1 h2 => hq2 q (by omega) (by omega))
                    have hBb := rBd_q hB2 (hq2 65 (by decide) (by decide))
                    have hPa := rPr_congr hP (by rw [hq2 51 (by decide) (by decide)]) (hq2 74 (by decide) (by decide)) (hq2 75 (by decide) (by decide))
                    have hx2 := gAt_get (show 12 * i ≤ 12 * i + e by omega) hxi
                    have hlen2 := hQ2.1
                    have hlx2 := (List.getElem?_eq_some_iff.mp hx2).1
                    refine zU_iload d_R_comesHome_97 rfl ?_
                    refine zU_bipush d_R_comesHome_99 (by decide) ?_
                    refine zU_icmp_ge 203 d_R_comesHome_101 (by decide) (by omega) (by omega) (fun h101 => ?_) (fun h101 => ?_)
                    · have he12 : 12 * (i + 1) = 12 * i + e := by omega
                      refine zU.eqL (L' := [some (zp 51), some (zi (f : Int)), some (zi ((gAt (nxT (gtg (gAt (nxQ (ktg tg1 K1) (ktg tg2 K2)) 0 (12 * n)))) f (12 * (i + 1))).1.length : Int)), some (zi (i : Int)), some (zi (k : Int)), some (zi (e : Int)), none, none, none]) (congrArg (fun zz : Int => [some (zp 51), some (zi (f : Int)), some (zi zz), some (zi (i : Int)), some (zi (k : Int)), some (zi (e : Int)), none, none, none]) (show (((gAt (nxT (gtg (gAt (nxQ (ktg tg1 K1) (ktg tg2 K2)) 0 (12 * n)))) f (12 * i + e)).1.length : Int) : Int) = ((gAt (nxT (gtg (gAt (nxQ (ktg tg1 K1) (ktg tg2 K2)) 0 (12 * n)))) f (12 * (i + 1))).1.length : Int) by rw [he12])) ?_
                      refine zU_iinc d_R_comesHome_203 rfl ?_
                      refine zU.eqL (L' := [some (zp 51), some (zi (f : Int)), some (zi ((gAt (nxT (gtg (gAt (nxQ (ktg tg1 K1) (ktg tg2 K2)) 0 (12 * n)))) f (12 * (i + 1))).1.length : Int)), some (zi (((i + 1 : Nat) : Int))), some (zi (k : Int)), some (zi (e : Int)), none, none, none]) (by first | rfl | exact congrArg (fun zz : Int => [some (zp 51), some (zi (f : Int)), some (zi ((gAt (nxT (gtg (gAt (nxQ (ktg tg1 K1) (ktg tg2 K2)) 0 (12 * n)))) f (12 * (i + 1))).1.length : Int)), some (zi zz), some (zi (k : Int)), some (zi (e : Int)), none, none, none]) (show ((i : Int) + 1 : Int) = ((i + 1 : Nat) : Int) by omega)) ?_
                      refine zU_goto 41 d_R_comesHome_206 (by decide) ?_
                      refine zU.drop 4 (L' := [some (zp 51), some (zi (f : Int)), some (zi ((gAt (nxT (gtg (gAt (nxQ (ktg tg1 K1) (ktg tg2 K2)) 0 (12 * n)))) f (12 * (i + 1))).1.length : Int)), some (zi (((i + 1 : Nat) : Int))), none, some (zi (e : Int)), none, none, none]) rfl ?_
                      refine zU.drop 5 (L' := [some (zp 51), some (zi (f : Int)), some (zi ((gAt (nxT (gtg (gAt (nxQ (ktg tg1 K1) (ktg tg2 K2)) 0 (12 * n)))) f (12 * (i + 1))).1.length : Int)), some (zi (((i + 1 : Nat) : Int))), none, none, none, none, none]) rfl ?_
                      exact ih41 (201 - (i + 1)) (by omega) (i + 1) μ2 (by omega) (by rw [he12]; exact hQ2) (by rw [he12]; omega) (fun j hj => by by_cases hji : j = i; { rw [hji]; omega }; { exact hks j (by omega) }) (fun j y hj hy => by by_cases hji : j = i; { rw [hji, he12, hx2] at hy; cases hy; exact hS }; { have h8 : j < (gAt (nxT (gtg (gAt (nxQ (ktg tg1 K1) (ktg tg2 K2)) 0 (12 * n)))) f (12 * i)).1.length := (by omega); have h9 := gAt_get (show 12 * i ≤ 12 * (i + 1) by omega) (List.getElem?_eq_getElem h8); rw [hy] at h9; exact hSn j y (by omega) (by rw [List.getElem?_eq_getElem h8]; exact h9.symm) }) hq2
                    · have he : e < 12 := by omega
                      have hX1 : ktg tg1 K1 (p / 256) e ≤ N1 := ktg_leN ((hTa.2.2 _ hpk.1).2 e he).1.2
                      have hX2 : ktg tg2 K2 (p % 256) e ≤ N2 := ktg_leN ((hTb.2.2 _ hpk.2).2 e he).1.2
                      have hTn : (gtg (gAt (nxQ (ktg tg1 K1) (ktg tg2 K2)) 0 (12 * n))) k e ≤ n := gtg_le hF hkn he
                      refine zU_aload_n d_R_comesHome_104 rfl ?_
                      refine zU_iconst d_R_comesHome_105 ?_
                      refine zU_aload_n d_R_comesHome_106 rfl ?_
                      refine zU_getR 74 d_R_comesHome_107 f_R_77 (by decide) rfl rfl rfl ?_
                      refine zU_iload d_R_comesHome_110 rfl ?_
                      refine zU_iald (v := ((p / 256 : Nat) : Int)) d_R_comesHome_112 (by decide) rfl (by decide) (by omega) ((hPa.2.2 k p hp).1) ?_
                      refine zU_iload d_R_comesHome_113 rfl ?_
                      refine zU_callVi (p0 := 51) [zi 1, zi (((p / 256 : Nat) : Int)), zi (e : Int)] d_R_comesHome_115 k_R_135 rfl (by decide) rfl rfl (by decide) (Nat.le_of_ble_eq_true rfl) (fun l => m_R_good l μ2 (B := C) (w := 1) (by omega) hTa hBa (k := p / 256) (e := e) hpk.1 he) (fun r115 μ115 h115 => ?_)
                      obtain ⟨hμ115, rfl⟩ := h115
                      replace hμ115 := hμ115.symm
                      subst hμ115
                      refine zU_istore d_R_comesHome_118 (by decide) ?_
                      refine zU.eqL (L' := [some (zp 51), some (zi (f : Int)), some (zi ((gAt (nxT (gtg (gAt (nxQ (ktg tg1 K1) (ktg tg2 K2)) 0 (12 * n)))) f (12 * i + e)).1.length : Int)), some (zi (i : Int)), some (zi (k : Int)), some (zi (e : Int)), some (zi ((ktg tg1 K1 (p / 256) e : Int) - 1)), none, none]) rfl ?_
                      refine zU_aload_n d_R_comesHome_120 rfl ?_
                      refine zU_iconst d_R_comesHome_121 ?_
                      refine zU_aload_n d_R_comesHome_122 rfl ?_
                      refine zU_getR 75 d_R_comesHome_123 f_R_80 (by decide) rfl rfl rfl ?_
                      refine zU_iload d_R_comesHome_126 rfl ?_
                      refine zU_iald (v := ((p % 256 : Nat) : Int)) d_R_comesHome_128 (by decide) rfl (by decide) (by omega) ((hPa.2.2 k p hp).2) ?_
                      refine zU_iload d_R_comesHome_129 rfl ?_
                      refine zU_callVi (p0 := 51) [zi 2, zi (((p % 256 : Nat) : Int)), zi (e : Int)] d_R_comesHome_131 k_R_135 rfl (by decide) rfl rfl (by decide) (Nat.le_of_ble_eq_true rfl) (fun l => m_R_good l μ2 (B := C) (w := 2) (by omega) hTb hBb (k := p % 256) (e := e) hpk.2 he) (fun r131 μ131 h131 => ?_)
                      obtain ⟨hμ131, rfl⟩ := h131
                      replace hμ131 := hμ131.symm
                      subst hμ131
                      refine zU_istore d_R_comesHome_134 (by decide) ?_
                      refine zU.eqL (L' := [some (zp 51), some (zi (f : Int)), some (zi ((gAt (nxT (gtg (gAt (nxQ (ktg tg1 K1) (ktg tg2 K2)) 0 (12 * n)))) f (12 * i + e)).1.length : Int)), some (zi (i : Int)), some (zi (k : Int)), some (zi (e : Int)), some (zi ((ktg tg1 K1 (p / 256) e : Int) - 1)), some (zi ((ktg tg2 K2 (p % 256) e : Int) - 1)), none]) rfl ?_
                      refine zU_iload d_R_comesHome_136 rfl ?_
                      have hJ158 : zU Γ b_R_comesHome n_R 9 (some .boolean) [] (zRm 1 0 24) 0 0 (zFin Γ 0 false (zRi (fun r μ' => ((r = 1 ∧ ∃ d, rch (gtg (gAt (nxQ (ktg tg1 K1) (ktg tg2 K2)) 0 (12 * n))) (fun _ => true) (pGo (gAt (nxQ (ktg tg1 K1) (ktg tg2 K2)) 0 (12 * n)).1 G1 G2) d f = true) ∨ (r = 0 ∧ ∀ d, rch (gtg (gAt (nxQ (ktg tg1 K1) (ktg tg2 K2)) 0 (12 * n))) (fun _ => true) (pGo (gAt (nxQ (ktg tg1 K1) (ktg tg2 K2)) 0 (12 * n)).1 G1 G2) d f = false)) ∧ ∀ q, q ≠ 71 → q ≠ 72 → μ' q = μ q))) false 0 μ2 158 [some (zp 51), some (zi (f : Int)), some (zi ((gAt (nxT (gtg (gAt (nxQ (ktg tg1 K1) (ktg tg2 K2)) 0 (12 * n)))) f (12 * i + e)).1.length : Int)), some (zi (i : Int)), some (zi (k : Int)), some (zi (e : Int)), none, none, none] [zi (((gtg (gAt (nxQ (ktg tg1 K1) (ktg tg2 K2)) 0 (12 * n))) k e : Int) - 1)] := by
                        refine zU_istore d_R_comesHome_158 (by decide) ?_
                        refine zU.eqL (L' := [some (zp 51), some (zi (f : Int)), some (zi ((gAt (nxT (gtg (gAt (nxQ (ktg tg1 K1) (ktg tg2 K2)) 0 (12 * n)))) f (12 * i + e)).1.length : Int)), some (zi (i : Int)), some (zi (k : Int)), some (zi (e : Int)), none, none, some (zi (((gtg (gAt (nxQ (ktg tg1 K1) (ktg tg2 K2)) 0 (12 * n))) k e : Int) - 1))]) rfl ?_
                        refine zU_iload d_R_comesHome_160 rfl ?_
                        refine zU_if_lt 197 d_R_comesHome_162 (by decide) (by omega) (fun h162 => ?_) (fun h162 => ?_)
                        · have hgo := nxT_none he hx2 (show (gtg (gAt (nxQ (ktg tg1 K1) (ktg tg2 K2)) 0 (12 * n))) k e = 0 by omega)
                          refine zU.eqL (L' := [some (zp 51), some (zi (f : Int)), some (zi ((gAt (nxT (gtg (gAt (nxQ (ktg tg1 K1) (ktg tg2 K2)) 0 (12 * n)))) f (12 * i + (e + 1))).1.length : Int)), some (zi (i : Int)), some (zi (k : Int)), some (zi (e : Int)), none, none, some (zi (((gtg (gAt (nxQ (ktg tg1 K1) (ktg tg2 K2)) 0 (12 * n))) k e : Int) - 1))]) (congrArg (fun zz : Int => [some (zp 51), some (zi (f : Int)), some (zi zz), some (zi (i : Int)), some (zi (k : Int)), some (zi (e : Int)), none, none, some (zi (((gtg (gAt (nxQ (ktg tg1 K1) (ktg tg2 K2)) 0 (12 * n))) k e : Int) - 1))]) (show (((gAt (nxT (gtg (gAt (nxQ (ktg tg1 K1) (ktg tg2 K2)) 0 (12 * n)))) f (12 * i + e)).1.length : Int) : Int) = ((gAt (nxT (gtg (gAt (nxQ (ktg tg1 K1) (ktg tg2 K2)) 0 (12 * n)))) f (12 * i + (e + 1))).1.length : Int) by rw [hgo])) ?_
                          refine zU_iinc d_R_comesHome_197 rfl ?_
                          refine zU.eqL (L' := [some (zp 51), some (zi (f : Int)), some (zi ((gAt (nxT (gtg (gAt (nxQ (ktg tg1 K1) (ktg tg2 K2)) 0 (12 * n)))) f (12 * i + (e + 1))).1.length : Int)), some (zi (i : Int)), some (zi (k : Int)), some (zi (((e + 1 : Nat) : Int))), none, none, some (zi (((gtg (gAt (nxQ (ktg tg1 K1) (ktg tg2 K2)) 0 (12 * n))) k e : Int) - 1))]) (by first | rfl | exact congrArg (fun zz : Int => [some (zp 51), some (zi (f : Int)), some (zi ((gAt (nxT (gtg (gAt (nxQ (ktg tg1 K1) (ktg tg2 K2)) 0 (12 * n)))) f (12 * i + (e + 1))).1.length : Int)), some (zi (i : Int)), some (zi (k : Int)), some (zi zz), none, none, some (zi (((gtg (gAt (nxQ (ktg tg1 K1) (ktg tg2 K2)) 0 (12 * n))) k e : Int) - 1))]) (show ((e : Int) + 1 : Int) = ((e + 1 : Nat) : Int) by omega)) ?_
                          refine zU_goto 97 d_R_comesHome_200 (by decide) ?_
                          refine zU.drop 8 (L' := [some (zp 51), some (zi (f : Int)), some (zi ((gAt (nxT (gtg (gAt (nxQ (ktg tg1 K1) (ktg tg2 K2)) 0 (12 * n)))) f (12 * i + (e + 1))).1.length : Int)), some (zi (i : Int)), some (zi (k : Int)), some (zi (((e + 1 : Nat) : Int))), none, none, none]) rfl ?_
                          exact ih97 (d - 1) (by omega) (e + 1) μ2 (by omega) (by rw [hgo]; exact hQ2) hq2
                        · have hyN : ((gtg (gAt (nxQ (ktg tg1 K1) (ktg tg2 K2)) 0 (12 * n))) k e - 1) < n := by omega
                          have hr2 := bP_r hQ2 hyN
                          refine zU_aload_n d_R_comesHome_165 rfl ?_
                          refine zU_getR 71 d_R_comesHome_166 f_R_68 (by decide) rfl rfl rfl ?_
                          refine zU_iload d_R_comesHome_169 rfl ?_
                          refine zU_iald (v := μ2 71 ((gtg (gAt (nxQ (ktg tg1 K1) (ktg tg2 K2)) 0 (12 * n))) k e - 1)) d_R_comesHome_171 (by decide) rfl (by decide) (by omega) (by rw [show (((gtg (gAt (nxQ (ktg tg1 K1) (ktg tg2 K2)) 0 (12 * n))) k e : Int) - 1).toNat = ((gtg (gAt (nxQ (ktg tg1 K1) (ktg tg2 K2)) 0 (12 * n))) k e - 1) by omega]) ?_
                          refine zU_if_lt 178 d_R_comesHome_172 (by decide) (by rcases hr2 with h | h <;> omega) (fun h172 => ?_) (fun h172 => ?_)
                          · have hno : ((gtg (gAt (nxQ (ktg tg1 K1) (ktg tg2 K2)) 0 (12 * n))) k e - 1) ∉ (gAt (nxT (gtg (gAt (nxQ (ktg tg1 K1) (ktg tg2 K2)) 0 (12 * n)))) f (12 * i + e)).1 := by rcases hr2 with h | h; exfalso; omega; exact h.1
                            have hroom := bP_room hQ2 hyN hno
                            refine zU.eqL (L' := [some (zp 51), some (zi (f : Int)), some (zi ((gAt (nxT (gtg (gAt (nxQ (ktg tg1 K1) (ktg tg2 K2)) 0 (12 * n)))) f (12 * i + e)).1.length : Int)), some (zi (i : Int)), some (zi (k : Int)), some (zi (e : Int)), none, none, some (zi ((((gtg (gAt (nxQ (ktg tg1 K1) (ktg tg2 K2)) 0 (12 * n))) k e - 1) : Nat) : Int))]) (congrArg (fun zz : Int => [some (zp 51), some (zi (f : Int)), some (zi ((gAt (nxT (gtg (gAt (nxQ (ktg tg1 K1) (ktg tg2 K2)) 0 (12 * n)))) f (12 * i + e)).1.length : Int)), some (zi (i : Int)), some (zi (k : Int)), some (zi (e : Int)), none, none, some (zi zz)]) (show (((gtg (gAt (nxQ (ktg tg1 K1) (ktg tg2 K2)) 0 (12 * n))) k e : Int) - 1 : Int) = ((((gtg (gAt (nxQ (ktg tg1 K1) (ktg tg2 K2)) 0 (12 * n))) k e - 1) : Nat) : Int) by omega)) ?_
                            refine zU_aload_n d_R_comesHome_178 rfl ?_
                            refine zU_getR 71 d_R_comesHome_179 f_R_68 (by decide) rfl rfl rfl ?_
                            refine zU_iload d_R_comesHome_182 rfl ?_
                            refine zU_iconst d_R_comesHome_184 ?_
                            refine zU_iast d_R_comesHome_185 (by decide) rfl (by decide) (by omega) ?_
                            refine zU.eqM (μ' := (zup μ2 71 ((gtg (gAt (nxQ (ktg tg1 K1) (ktg tg2 K2)) 0 (12 * n))) k e - 1) 0)) rfl ?_
                            refine zU_aload_n d_R_comesHome_186 rfl ?_
                            refine zU_getR 72 d_R_comesHome_187 f_R_71 (by decide) rfl rfl rfl ?_
                            refine zU_iload_n d_R_comesHome_190 rfl ?_
                            refine zU_iload d_R_comesHome_191 rfl ?_
                            refine zU_iast d_R_comesHome_193 (by decide) rfl (by decide) (by omega) ?_
                            refine zU.eqM (μ' := (zup (zup μ2 71 ((gtg (gAt (nxQ (ktg tg1 K1) (ktg tg2 K2)) 0 (12 * n))) k e - 1) 0) 72 (gAt (nxT (gtg (gAt (nxQ (ktg tg1 K1) (ktg tg2 K2)) 0 (12 * n)))) f (12 * i + e)).1.length ((((gtg (gAt (nxQ (ktg tg1 K1) (ktg tg2 K2)) 0 (12 * n))) k e - 1) : Nat) : Int))) rfl ?_
                            refine zU_iinc d_R_comesHome_194 rfl ?_
                            refine zU.eqL (L' := [some (zp 51), some (zi (f : Int)), some (zi ((((gAt (nxT (gtg (gAt (nxQ (ktg tg1 K1) (ktg tg2 K2)) 0 (12 * n)))) f (12 * i + e)).1.length + 1 : Nat) : Int))), some (zi (i : Int)), some (zi (k : Int)), some (zi (e : Int)), none, none, some (zi ((((gtg (gAt (nxQ (ktg tg1 K1) (ktg tg2 K2)) 0 (12 * n))) k e - 1) : Nat) : Int))]) (by first | rfl | exact congrArg (fun zz : Int => [some (zp 51), some (zi (f : Int)), some (zi zz), some (zi (i : Int)), some (zi (k : Int)), some (zi (e : Int)), none, none, some (zi ((((gtg (gAt (nxQ (ktg tg1 K1) (ktg tg2 K2)) 0 (12 * n))) k e - 1) : Nat) : Int))]) (show (((gAt (nxT (gtg (gAt (nxQ (ktg tg1 K1) (ktg tg2 K2)) 0 (12 * n)))) f (12 * i + e)).1.length : Int) + 1 : Int) = (((gAt (nxT (gtg (gAt (nxQ (ktg tg1 K1) (ktg tg2 K2)) 0 (12 * n)))) f (12 * i + e)).1.length + 1 : Nat) : Int) by omega)) ?_
                            have hgo := nxT_new he hx2 (show (gtg (gAt (nxQ (ktg tg1 K1) (ktg tg2 K2)) 0 (12 * n))) k e ≠ 0 by omega) hno
                            refine zU.eqL (L' := [some (zp 51), some (zi (f : Int)), some (zi ((gAt (nxT (gtg (gAt (nxQ (ktg tg1 K1) (ktg tg2 K2)) 0 (12 * n)))) f (12 * i + (e + 1))).1.length : Int)), some (zi (i : Int)), some (zi (k : Int)), some (zi (e : Int)), none, none, some (zi ((((gtg (gAt (nxQ (ktg tg1 K1) (ktg tg2 K2)) 0 (12 * n))) k e - 1) : Nat) : Int))]) (congrArg (fun zz : Int => [some (zp 51), some (zi (f : Int)), some (zi zz), some (zi (i : Int)), some (zi (k : Int)), some (zi (e : Int)), none, none, some (zi ((((gtg (gAt (nxQ (ktg tg1 K1) (ktg tg2 K2)) 0 (12 * n))) k e - 1) : Nat) : Int))]) (show ((((gAt (nxT (gtg (gAt (nxQ (ktg tg1 K1) (ktg tg2 K2)) 0 (12 * n)))) f (12 * i + e)).1.length + 1 : Nat) : Int) : Int) = ((gAt (nxT (gtg (gAt (nxQ (ktg tg1 K1) (ktg tg2 K2)) 0 (12 * n)))) f (12 * i + (e + 1))).1.length : Int) by rw [hgo]; simp)) ?_
                            refine zU_iinc d_R_comesHome_197 rfl ?_
                            refine zU.eqL (L' := [some (zp 51), some (zi (f : Int)), some (zi ((gAt (nxT (gtg (gAt (nxQ (ktg tg1 K1) (ktg tg2 K2)) 0 (12 * n)))) f (12 * i + (e + 1))).1.length : Int)), some (zi (i : Int)), some (zi (k : Int)), some (zi (((e + 1 : Nat) : Int))), none, none, some (zi ((((gtg (gAt (nxQ (ktg tg1 K1) (ktg tg2 K2)) 0 (12 * n))) k e - 1) : Nat) : Int))]) (by first | rfl | exact congrArg (fun zz : Int => [some (zp 51), some (zi (f : Int)), some (zi ((gAt (nxT (gtg (gAt (nxQ (ktg tg1 K1) (ktg tg2 K2)) 0 (12 * n)))) f (12 * i + (e + 1))).1.length : Int)), some (zi (i : Int)), some (zi (k : Int)), some (zi zz), none, none, some (zi ((((gtg (gAt (nxQ (ktg tg1 K1) (ktg tg2 K2)) 0 (12 * n))) k e - 1) : Nat) : Int))]) (show ((e : Int) + 1 : Int) = ((e + 1 : Nat) : Int) by omega)) ?_
                            refine zU_goto 97 d_R_comesHome_200 (by decide) ?_
                            refine zU.drop 8 (L' := [some (zp 51), some (zi (f : Int)), some (zi ((gAt (nxT (gtg (gAt (nxQ (ktg tg1 K1) (ktg tg2 K2)) 0 (12 * n)))) f (12 * i + (e + 1))).1.length : Int)), some (zi (i : Int)), some (zi (k : Int)), some (zi (((e + 1 : Nat) : Int))), none, none, none]) rfl ?_
                            exact ih97 (d - 1) (by omega) (e + 1) _ (by omega) (by rw [hgo]; exact bP_new hQ2 hyN hno) (fun q h1 h2 => by rw [zup_ne _ _ _ h2, zup_ne _ _ _ h1]; exact hq2 q h1 h2)
                          · refine zU_goto 197 d_R_comesHome_175 (by decide) ?_
                            have hgo := nxT_old he hx2 (show (gtg (gAt (nxQ (ktg tg1 K1) (ktg tg2 K2)) 0 (12 * n))) k e ≠ 0 by omega) (by rcases hr2 with h | h; exact h.1; exfalso; omega)
                            refine zU.eqL (L' := [some (zp 51), some (zi (f : Int)), some (zi ((gAt (nxT (gtg (gAt (nxQ (ktg tg1 K1) (ktg tg2 K2)) 0 (12 * n)))) f (12 * i + (e + 1))).1.length : Int)), some (zi (i : Int)), some (zi (k : Int)), some (zi (e : Int)), none, none, some (zi (((gtg (gAt (nxQ (ktg tg1 K1) (ktg tg2 K2)) 0 (12 * n))) k e : Int) - 1))]) (congrArg (fun zz : Int => [some (zp 51), some (zi (f : Int)), some (zi zz), some (zi (i : Int)), some (zi (k : Int)), some (zi (e : Int)), none, none, some (zi (((gtg (gAt (nxQ (ktg tg1 K1) (ktg tg2 K2)) 0 (12 * n))) k e : Int) - 1))]) (show (((gAt (nxT (gtg (gAt (nxQ (ktg tg1 K1) (ktg tg2 K2)) 0 (12 * n)))) f (12 * i + e)).1.length : Int) : Int) = ((gAt (nxT (gtg (gAt (nxQ (ktg tg1 K1) (ktg tg2 K2)) 0 (12 * n)))) f (12 * i + (e + 1))).1.length : Int) by rw [hgo])) ?_
                            refine zU_iinc d_R_comesHome_197 rfl ?_
                            refine zU.eqL (L' := [some (zp 51), some (zi (f : Int)), some (zi ((gAt (nxT (gtg (gAt (nxQ (ktg tg1 K1) (ktg tg2 K2)) 0 (12 * n)))) f (12 * i + (e + 1))).1.length : Int)), some (zi (i : Int)), some (zi (k : Int)), some (zi (((e + 1 : Nat) : Int))), none, none, some (zi (((gtg (gAt (nxQ (ktg tg1 K1) (ktg tg2 K2)) 0 (12 * n))) k e : Int) - 1))]) (by first | rfl | exact congrArg (fun zz : Int => [some (zp 51), some (zi (f : Int)), some (zi ((gAt (nxT (gtg (gAt (nxQ (ktg tg1 K1) (ktg tg2 K2)) 0 (12 * n)))) f (12 * i + (e + 1))).1.length : Int)), some (zi (i : Int)), some (zi (k : Int)), some (zi zz), none, none, some (zi (((gtg (gAt (nxQ (ktg tg1 K1) (ktg tg2 K2)) 0 (12 * n))) k e : Int) - 1))]) (show ((e : Int) + 1 : Int) = ((e + 1 : Nat) : Int) by omega)) ?_
                            refine zU_goto 97 d_R_comesHome_200 (by decide) ?_
                            refine zU.drop 8 (L' := [some (zp 51), some (zi (f : Int)), some (zi ((gAt (nxT (gtg (gAt (nxQ (ktg tg1 K1) (ktg tg2 K2)) 0 (12 * n)))) f (12 * i + (e + 1))).1.length : Int)), some (zi (i : Int)), some (zi (k : Int)), some (zi (((e + 1 : Nat) : Int))), none, none, none]) rfl ?_
                            exact ih97 (d - 1) (by omega) (e + 1) μ2 (by omega) (by rw [hgo]; exact hQ2) hq2
                      refine zU_if_lt 146 d_R_comesHome_138 (by decide) (by omega) (fun h138 => ?_) (fun h138 => ?_)
                      · refine zU_iconst d_R_comesHome_146 ?_
                        refine zU_goto 158 d_R_comesHome_147 (by decide) ?_
                        refine zU.eqS (st' := [zi (((gtg (gAt (nxQ (ktg tg1 K1) (ktg tg2 K2)) 0 (12 * n))) k e : Int) - 1)]) (congrArg (fun zz : Int => [zi zz]) (show (-1 : Int) = ((gtg (gAt (nxQ (ktg tg1 K1) (ktg tg2 K2)) 0 (12 * n))) k e : Int) - 1 by rw [pT_0 hF he hp (nxQ_none (Or.inl (show ktg tg1 K1 (p / 256) e = 0 by omega)))]; rfl)) ?_
                        refine zU.drop 6 (L' := [some (zp 51), some (zi (f : Int)), some (zi ((gAt (nxT (gtg (gAt (nxQ (ktg tg1 K1) (ktg tg2 K2)) 0 (12 * n)))) f (12 * i + e)).1.length : Int)), some (zi (i : Int)), some (zi (k : Int)), some (zi (e : Int)), none, some (zi ((ktg tg2 K2 (p % 256) e : Int) - 1)), none]) rfl ?_
                        refine zU.drop 7 (L' := [some (zp 51), some (zi (f : Int)), some (zi ((gAt (nxT (gtg (gAt (nxQ (ktg tg1 K1) (ktg tg2 K2)) 0 (12 * n)))) f (12 * i + e)).1.length : Int)), some (zi (i : Int)), some (zi (k : Int)), some (zi (e : Int)), none, none, none]) rfl ?_
                        exact hJ158 
                      · refine zU_iload d_R_comesHome_141 rfl ?_
                        refine zU_if_ge 150 d_R_comesHome_143 (by decide) (by omega) (fun h143 => ?_) (fun h143 => ?_)
                        · refine zU.eqL (L' := [some (zp 51), some (zi (f : Int)), some (zi ((gAt (nxT (gtg (gAt (nxQ (ktg tg1 K1) (ktg tg2 K2)) 0 (12 * n)))) f (12 * i + e)).1.length : Int)), some (zi (i : Int)), some (zi (k : Int)), some (zi (e : Int)), some (zi ((ktg tg1 K1 (p / 256) e - 1 : Nat) : Int)), some (zi ((ktg tg2 K2 (p % 256) e : Int) - 1)), none]) (congrArg (fun zz : Int => [some (zp 51), some (zi (f : Int)), some (zi ((gAt (nxT (gtg (gAt (nxQ (ktg tg1 K1) (ktg tg2 K2)) 0 (12 * n)))) f (12 * i + e)).1.length : Int)), some (zi (i : Int)), some (zi (k : Int)), some (zi (e : Int)), some (zi zz), some (zi ((ktg tg2 K2 (p % 256) e : Int) - 1)), none]) (show ((ktg tg1 K1 (p / 256) e : Int) - 1 : Int) = ((ktg tg1 K1 (p / 256) e - 1 : Nat) : Int) by omega)) ?_
                          refine zU_aload_n d_R_comesHome_150 rfl ?_
                          refine zU_iload d_R_comesHome_151 rfl ?_
                          refine zU.eqL (L' := [some (zp 51), some (zi (f : Int)), some (zi ((gAt (nxT (gtg (gAt (nxQ (ktg tg1 K1) (ktg tg2 K2)) 0 (12 * n)))) f (12 * i + e)).1.length : Int)), some (zi (i : Int)), some (zi (k : Int)), some (zi (e : Int)), some (zi ((ktg tg1 K1 (p / 256) e - 1 : Nat) : Int)), some (zi ((ktg tg2 K2 (p % 256) e - 1 : Nat) : Int)), none]) (congrArg (fun zz : Int => [some (zp 51), some (zi (f : Int)), some (zi ((gAt (nxT (gtg (gAt (nxQ (ktg tg1 K1) (ktg tg2 K2)) 0 (12 * n)))) f (12 * i + e)).1.length : Int)), some (zi (i : Int)), some (zi (k : Int)), some (zi (e : Int)), some (zi ((ktg tg1 K1 (p / 256) e - 1 : Nat) : Int)), some (zi zz), none]) (show ((ktg tg2 K2 (p % 256) e : Int) - 1 : Int) = ((ktg tg2 K2 (p % 256) e - 1 : Nat) : Int) by omega)) ?_
                          refine zU_iload d_R_comesHome_153 rfl ?_
                          refine zU_callVi (p0 := 51) [zi ((ktg tg1 K1 (p / 256) e - 1 : Nat) : Int), zi ((ktg tg2 K2 (p % 256) e - 1 : Nat) : Int)] d_R_comesHome_155 k_R_167 rfl (by decide) rfl rfl (by decide) (Nat.le_of_ble_eq_true rfl) (fun l => m_R_couple l μ2 hPa hPb (x := ktg tg1 K1 (p / 256) e - 1) (y := ktg tg2 K2 (p % 256) e - 1) (by omega) (by omega)) (fun r155 μ155 h155 => ?_)
                          obtain ⟨j9, hj9, hg9⟩ := pT_s hF he hp (nxQ_some (show ktg tg1 K1 (p / 256) e ≠ 0 by omega) (show ktg tg2 K2 (p % 256) e ≠ 0 by omega))
                          obtain ⟨hr155, hμ155⟩ : r155 = (j9 : Int) ∧ μ155 = μ2 := by
                            rcases h155 with ⟨k9, c1, c2, c3⟩ | ⟨c1, _⟩ | ⟨c1, _⟩
                            · have := nodup_get (gAt_nodup _ _ _) c1 hj9
                              subst this
                              exact ⟨c2, c3⟩
                            · exact absurd (List.mem_of_getElem? hj9) c1
                            · exact absurd (List.mem_of_getElem? hj9) c1
                          subst hμ155
                          have hTj : (gtg (gAt (nxQ (ktg tg1 K1) (ktg tg2 K2)) 0 (12 * n))) k e = j9 + 1 := hg9
                          refine zU.eqS (st' := [zi (((gtg (gAt (nxQ (ktg tg1 K1) (ktg tg2 K2)) 0 (12 * n))) k e : Int) - 1)]) (congrArg (fun zz : Int => [zi zz]) (show (r155 : Int) = ((gtg (gAt (nxQ (ktg tg1 K1) (ktg tg2 K2)) 0 (12 * n))) k e : Int) - 1 by rw [hr155, hTj]; omega)) ?_
                          refine zU.drop 6 (L' := [some (zp 51), some (zi (f : Int)), some (zi ((gAt (nxT (gtg (gAt (nxQ (ktg tg1 K1) (ktg tg2 K2)) 0 (12 * n)))) f (12 * i + e)).1.length : Int)), some (zi (i : Int)), some (zi (k : Int)), some (zi (e : Int)), none, some (zi ((ktg tg2 K2 (p % 256) e - 1 : Nat) : Int)), none]) rfl ?_
                          refine zU.drop 7 (L' := [some (zp 51), some (zi (f : Int)), some (zi ((gAt (nxT (gtg (gAt (nxQ (ktg tg1 K1) (ktg tg2 K2)) 0 (12 * n)))) f (12 * i + e)).1.length : Int)), some (zi (i : Int)), some (zi (k : Int)), some (zi (e : Int)), none, none, none]) rfl ?_
                          exact hJ158 
                        · refine zU_iconst d_R_comesHome_146 ?_
                          refine zU_goto 158 d_R_comesHome_147 (by decide) ?_
                          refine zU.eqS (st' := [zi (((gtg (gAt (nxQ (ktg tg1 K1) (ktg tg2 K2)) 0 (12 * n))) k e : Int) - 1)]) (congrArg (fun zz : Int => [zi zz]) (show (-1 : Int) = ((gtg (gAt (nxQ (ktg tg1 K1) (ktg tg2 K2)) 0 (12 * n))) k e : Int) - 1 by rw [pT_0 hF he hp (nxQ_none (Or.inr (show ktg tg2 K2 (p % 256) e = 0 by omega)))]; rfl)) ?_
                          refine zU.drop 6 (L' := [some (zp 51), some (zi (f : Int)), some (zi ((gAt (nxT (gtg (gAt (nxQ (ktg tg1 K1) (ktg tg2 K2)) 0 (12 * n)))) f (12 * i + e)).1.length : Int)), some (zi (i : Int)), some (zi (k : Int)), some (zi (e : Int)), none, some (zi ((ktg tg2 K2 (p % 256) e : Int) - 1)), none]) rfl ?_
                          refine zU.drop 7 (L' := [some (zp 51), some (zi (f : Int)), some (zi ((gAt (nxT (gtg (gAt (nxQ (ktg tg1 K1) (ktg tg2 K2)) 0 (12 * n)))) f (12 * i + e)).1.length : Int)), some (zi (i : Int)), some (zi (k : Int)), some (zi (e : Int)), none, none, none]) rfl ?_
                          exact hJ158 
                exact hJ97 12 0 μ1 (by omega) hQ hq1
              refine zU_if_eq 94 d_R_comesHome_70 (by decide) (zBr _) (fun h70 => ?_) (fun h70 => ?_)
              · have b70 := zB_zero.mp h70
                exact hJ94 (by unfold pGo; rw [getD_of hp, b70]; rfl)
              · have b70 := zB_nz.mp h70
                refine zU_aload_n d_R_comesHome_73 rfl ?_
                refine zU_getR 64 d_R_comesHome_74 f_R_47 (by decide) rfl rfl rfl ?_
                refine zU_sipush d_R_comesHome_77 (by decide) ?_
                refine zU_aload_n d_R_comesHome_80 rfl ?_
                refine zU_getR 75 d_R_comesHome_81 f_R_80 (by decide) rfl rfl rfl ?_
                refine zU_iload d_R_comesHome_84 rfl ?_
                refine zU_iald (v := ((p % 256 : Nat) : Int)) d_R_comesHome_86 (by decide) rfl (by decide) (by omega) (by rw [hq1 75 (by decide) (by decide)]; exact (hP.2.2 k p hp).2) ?_
                refine zU_iadd d_R_comesHome_87 ?_
                refine zU_zald (v := zB (G2 (p % 256))) d_R_comesHome_88 (by decide) rfl (by decide) (by omega) (by rw [show (400 + ((p % 256 : Nat) : Int)).toNat = 200 * 2 + p % 256 by omega, hq1 64 (by decide) (by decide)]; exact (hT2.2.2 _ hpk.2).1) ?_
                refine zU_if_eq 94 d_R_comesHome_89 (by decide) (zBr _) (fun h89 => ?_) (fun h89 => ?_)
                · have b89 := zB_zero.mp h89
                  exact hJ94 (by unfold pGo; rw [getD_of hp, b89, Bool.and_false])
                · have b89 := zB_nz.mp h89
                  refine zU_iconst d_R_comesHome_92 ?_
                  exact zU_ireturn d_R_comesHome_93 (Or.inr ⟨rfl, by omega⟩) (by decide) (by decide) (⟨_, rfl, Or.inl ⟨rfl, bReach (by omega) hxi (by unfold pGo; rw [getD_of hp, b70, b89]; rfl)⟩, hq1⟩)
        exact hJ41 201 0 μ3 (by omega) hQ3 (by omega) (fun j hj => absurd hj (by omega)) (fun j y hj => absurd hj (by omega)) hq3
      · refine zU_aload_n d_R_comesHome_10 rfl ?_
        refine zU_getR 71 d_R_comesHome_11 f_R_68 (by decide) rfl rfl rfl ?_
        refine zU_iload_n d_R_comesHome_14 rfl ?_
        refine zU_iconst d_R_comesHome_15 ?_
        refine zU_iast d_R_comesHome_16 (by decide) rfl (by decide) (by omega) ?_
        refine zU.eqM (μ' := zup μ1 71 z (-1)) rfl ?_
        refine zU_iinc d_R_comesHome_17 rfl ?_
        refine zU.eqL (L' := [some (zp 51), some (zi (f : Int)), some (zi (((z + 1 : Nat) : Int))), none, none, none, none, none, none]) (by first | rfl | exact congrArg (fun zz : Int => [some (zp 51), some (zi (f : Int)), some (zi zz), none, none, none, none, none, none]) (show ((z : Int) + 1 : Int) = ((z + 1 : Nat) : Int) by omega)) ?_
        refine zU_goto 2 d_R_comesHome_20 (by decide) ?_
        exact ih2 (d - 1) (by omega) (z + 1) _ (by omega) (fun j hj => by rw [zup_at]; by_cases hjk : j = z; { rw [if_pos ⟨rfl, hjk⟩] }; { rw [if_neg (by omega)]; exact h71 j (by omega) }) (fun q hq => by rw [zup_ne _ _ _ hq]; exact hq1 q hq)
  refine zU.loose ?_
  exact hJ2 n 0 μ (by omega) (fun j hj => absurd hj (by omega)) (fun _ _ => rfl)
