set_option maxRecDepth 100000 in
set_option maxHeartbeats 4000000 in
theorem m_R_explore (l : Launch) (μ : zM) {a : aT} (ha : aOk a) (hc : rRep a μ) {r : Option Nat} (hr : ∀ x, r = some x → x < 4) {w : Nat} (hw : w < 3) (hI : ∀ i, i < aN a → aMem a r i = true → 0 ≤ aI a i) :
    zC l y_R_explore b_R_explore 8 (some .boolean) [] 2 0 55 false [zp 51, zi (w : Int), zi (rI r)] μ (zRi (fun r' μ' => ((r' = 1 ∧ ∃ N, gFin (nxtA a (aMem a r)) (cod (aFirst a (aMem a r))) N ∧ 0 < N ∧ N ≤ 200 ∧ rGr a (aMem a r) w N μ' ∧ rBd w N (sB a (aMem a r) (sg a (aMem a r) N)) μ') ∨ (r' = 0 ∧ gMany (nxtA a (aMem a r)) (cod (aFirst a (aMem a r))))) ∧ rFr w μ μ')) := by
  refine zC.of (own := n_R) (L := [some (zp 51), some (zi (w : Int)), some (zi (rI r)), none, none, none, none, none]) (by decide) rfl (by simp [zcat]) (Nat.le_of_ble_eq_true rfl) rfl (fun Γ => ?_)
  have hN4 := ha.1
  refine zU_iconst d_R_explore_0 ?_
  refine zU_istore_n d_R_explore_1 (by decide) ?_
  refine zU.eqL (L' := [some (zp 51), some (zi (w : Int)), some (zi (rI r)), some (zi 0), none, none, none, none]) rfl ?_
  refine zU_aload_n d_R_explore_2 rfl ?_
  refine zU_getI (v := (aN a : Int)) d_R_explore_3 f_R_98 (by decide) rfl rfl (hc.1) ?_
  refine zU_iconst d_R_explore_6 ?_
  refine zU_isub d_R_explore_7 ?_
  refine zU_istore d_R_explore_8 (by decide) ?_
  refine zU.eqL (L' := [some (zp 51), some (zi (w : Int)), some (zi (rI r)), some (zi 0), some (zi (((aN a : Int)) - 1)), none, none, none]) rfl ?_
  refine zU.eqL (L' := [some (zp 51), some (zi (w : Int)), some (zi (rI r)), some (zi 0), some (zi ((aN a : Int) - 1 - ((0 : Nat) : Int))), none, none, none]) (congrArg (fun zz : Int => [some (zp 51), some (zi (w : Int)), some (zi (rI r)), some (zi 0), some (zi zz), none, none, none]) (show (aN a : Int) - 1 = (aN a : Int) - 1 - ((0 : Nat) : Int) by omega)) ?_
  have hJ10 : ∀ (d : Nat) (m : Nat), m + d = aN a → zU Γ b_R_explore n_R 8 (some .boolean) [] (zRm 2 0 55) 0 0 (zFin Γ 0 false (zRi (fun r' μ' => ((r' = 1 ∧ ∃ N, gFin (nxtA a (aMem a r)) (cod (aFirst a (aMem a r))) N ∧ 0 < N ∧ N ≤ 200 ∧ rGr a (aMem a r) w N μ' ∧ rBd w N (sB a (aMem a r) (sg a (aMem a r) N)) μ') ∨ (r' = 0 ∧ gMany (nxtA a (aMem a r)) (cod (aFirst a (aMem a r))))) ∧ rFr w μ μ'))) true 0 μ 10 [some (zp 51), some (zi (w : Int)), some (zi (rI r)), some (zi ((t6 (aFirst a (aMem a r)) (aN a) m : Nat) : Int)), some (zi ((aN a : Int) - 1 - (m : Int))), none, none, none] [] := by
    intro d
    induction d using Nat.strongRecOn with
    | _ d ih10 =>
      intro m hd
      refine zU_iload d_R_explore_10 rfl ?_
      refine zU_if_lt 48 d_R_explore_12 (by decide) (by omega) (fun h12 => ?_) (fun h12 => ?_)
      · refine zU.eqL (L' := [some (zp 51), some (zi (w : Int)), some (zi (rI r)), some (zi (c6 (cod (aFirst a (aMem a r))) : Int)), some (zi ((aN a : Int) - 1 - (m : Int))), none, none, none]) (congrArg (fun zz : Int => [some (zp 51), some (zi (w : Int)), some (zi (rI r)), some (zi zz), some (zi ((aN a : Int) - 1 - (m : Int))), none, none, none]) (show (((t6 (aFirst a (aMem a r)) (aN a) m : Nat) : Int) : Int) = (c6 (cod (aFirst a (aMem a r))) : Int) by have hm : m = aN a := (by omega); rw [hm, t6_first ha])) ?_
        refine zU_aload_n d_R_explore_48 rfl ?_
        refine zU_getR 60 d_R_explore_49 f_R_35 (by decide) rfl rfl rfl ?_
        refine zU_iload_n d_R_explore_52 rfl ?_
        refine zU_iconst d_R_explore_53 ?_
        refine zU_iast d_R_explore_54 (by decide) rfl (by decide) (by omega) ?_
        refine zU.eqM (μ' := zup μ 60 w 0) rfl ?_
        refine zU_aload_n d_R_explore_55 rfl ?_
        refine zU_iload_n d_R_explore_56 rfl ?_
        refine zU_iload_n d_R_explore_57 rfl ?_
        refine zU_callVi (p0 := 51) [zi (w : Int), zi (c6 (cod (aFirst a (aMem a r))) : Int)] d_R_explore_58 k_R_121 rfl (by decide) rfl rfl (by decide) (Nat.le_of_ble_eq_true rfl) (fun l => m_R_placeOf l (zup μ 60 w 0) (L := []) (w := w) (c := c6 (cod (aFirst a (aMem a r)))) hw (by simp) (by rw [zup_at]; simp) (fun k x h => by simp at h) (by have := c6_max (cod (aFirst a (aMem a r))); omega)) (fun r58 μ58 h58 => ?_)
        rcases h58 with ⟨k, h, _⟩ | ⟨_, h, _⟩ | ⟨_, _, _, h58⟩
        { simp at h }
        { simp at h }
        subst h58
        refine zU_pop d_R_explore_61 rfl ?_
        refine zU_iconst d_R_explore_62 ?_
        refine zU_istore d_R_explore_63 (by decide) ?_
        refine zU.eqL (L' := [some (zp 51), some (zi (w : Int)), some (zi (rI r)), some (zi (c6 (cod (aFirst a (aMem a r))) : Int)), some (zi 0), none, none, none]) rfl ?_
        have hJ65 : ∀ (d : Nat) (k : Nat) (μ1 : zM), k + d = 201 → rEx a (aMem a r) w (12 * k) k μ μ1 → k ≤ (gA a (aMem a r) (12 * k)).1.length → (∀ j, j < k → j < (gA a (aMem a r) (12 * j)).1.length) → zU Γ b_R_explore n_R 8 (some .boolean) [] (zRm 2 0 55) 0 0 (zFin Γ 0 false (zRi (fun r' μ' => ((r' = 1 ∧ ∃ N, gFin (nxtA a (aMem a r)) (cod (aFirst a (aMem a r))) N ∧ 0 < N ∧ N ≤ 200 ∧ rGr a (aMem a r) w N μ' ∧ rBd w N (sB a (aMem a r) (sg a (aMem a r) N)) μ') ∨ (r' = 0 ∧ gMany (nxtA a (aMem a r)) (cod (aFirst a (aMem a r))))) ∧ rFr w μ μ'))) false 0 μ1 65 [some (zp 51), some (zi (w : Int)), some (zi (rI r)), none, some (zi (k : Int)), none, none, none] [] := by
          intro d
          induction d using Nat.strongRecOn with
          | _ d ih65 =>
            intro k μ1 hd hX hkl hks
            have hl := hX.1.1
            refine zU_iload d_R_explore_65 rfl ?_
            refine zU_aload_n d_R_explore_67 rfl ?_
            refine zU_getR 60 d_R_explore_68 f_R_35 (by decide) rfl rfl rfl ?_
            refine zU_iload_n d_R_explore_71 rfl ?_
            refine zU_iald (v := ((gA a (aMem a r) (12 * k)).1.length : Int)) d_R_explore_72 (by decide) rfl (by decide) (by omega) (hX.1.2.1) ?_
            refine zU_icmp_ge 332 d_R_explore_73 (by decide) (by omega) (by omega) (fun h73 => ?_) (fun h73 => ?_)
            · refine zU_iconst d_R_explore_332 ?_
              exact zU_ireturn d_R_explore_333 (Or.inr ⟨rfl, by omega⟩) (by decide) (by decide) (⟨_, rfl, Or.inl ⟨rfl, k, ⟨(show (gA a (aMem a r) (12 * k)).1.length = k by omega), hks⟩, by have h9 : (gA a (aMem a r) 0).1.length ≤ (gA a (aMem a r) (12 * k)).1.length := gAt_len (by omega); have h8 : (gA a (aMem a r) 0).1.length = 1 := rfl; omega, by omega, rEx_fin hX (by omega)⟩, hX.2.2.2⟩)
            · obtain ⟨c, hck⟩ : ∃ c, (gA a (aMem a r) (12 * k)).1[k]? = some c := ⟨_, List.getElem?_eq_getElem (by omega)⟩
              have hk2 : k < 200 := by omega
              have hv := gA_ok ha hI _ c (List.mem_of_getElem? hck)
              have hc6 := c6_max c
              refine zU_sipush d_R_explore_76 (by decide) ?_
              refine zU_iload_n d_R_explore_79 rfl ?_
              refine zU_imul d_R_explore_80 ?_
              refine zU_iload d_R_explore_81 rfl ?_
              refine zU_iadd d_R_explore_83 ?_
              refine zU_istore d_R_explore_84 (by decide) ?_
              refine zU.eqL (L' := [some (zp 51), some (zi (w : Int)), some (zi (rI r)), none, some (zi (k : Int)), some (zi ((200 * (w : Int)) + (k : Int))), none, none]) rfl ?_
              refine zU.eqL (L' := [some (zp 51), some (zi (w : Int)), some (zi (rI r)), none, some (zi (k : Int)), some (zi ((200 * w + k : Nat) : Int)), none, none]) (congrArg (fun zz : Int => [some (zp 51), some (zi (w : Int)), some (zi (rI r)), none, some (zi (k : Int)), some (zi zz), none, none]) (show ((200 * (w : Int)) + (k : Int) : Int) = ((200 * w + k : Nat) : Int) by omega)) ?_
              refine zU_aload_n d_R_explore_86 rfl ?_
              refine zU_getR 64 d_R_explore_87 f_R_47 (by decide) rfl rfl rfl ?_
              refine zU_iload d_R_explore_90 rfl ?_
              refine zU_iconst d_R_explore_92 ?_
              refine zU_zast d_R_explore_93 (by decide) rfl (by decide) (by omega) (Or.inr rfl) ?_
              refine zU.eqM (μ' := zup μ1 64 (200 * w + k) 1) rfl ?_
              refine zU_aload_n d_R_explore_94 rfl ?_
              refine zU_getR 65 d_R_explore_95 f_R_50 (by decide) rfl rfl rfl ?_
              refine zU_iload d_R_explore_98 rfl ?_
              refine zU_iconst d_R_explore_100 ?_
              refine zU_zast d_R_explore_101 (by decide) rfl (by decide) (by omega) (Or.inl rfl) ?_
              refine zU.eqM (μ' := zup (zup μ1 64 (200 * w + k) 1) 65 (200 * w + k) 0) rfl ?_
              refine zU_iconst d_R_explore_102 ?_
              refine zU_istore d_R_explore_103 (by decide) ?_
              refine zU.eqL (L' := [some (zp 51), some (zi (w : Int)), some (zi (rI r)), none, some (zi (k : Int)), some (zi ((200 * w + k : Nat) : Int)), some (zi 0), none]) rfl ?_
              have hJ105 : ∀ (d : Nat) (i : Nat) (μ2 : zM), i + d = aN a → rAu a (aMem a r) c i (200 * w + k) μ1 μ2 → zU Γ b_R_explore n_R 8 (some .boolean) [] (zRm 2 0 55) 0 0 (zFin Γ 0 false (zRi (fun r' μ' => ((r' = 1 ∧ ∃ N, gFin (nxtA a (aMem a r)) (cod (aFirst a (aMem a r))) N ∧ 0 < N ∧ N ≤ 200 ∧ rGr a (aMem a r) w N μ' ∧ rBd w N (sB a (aMem a r) (sg a (aMem a r) N)) μ') ∨ (r' = 0 ∧ gMany (nxtA a (aMem a r)) (cod (aFirst a (aMem a r))))) ∧ rFr w μ μ'))) false 0 μ2 105 [some (zp 51), some (zi (w : Int)), some (zi (rI r)), none, some (zi (k : Int)), some (zi ((200 * w + k : Nat) : Int)), some (zi (i : Int)), none] [] := by
                intro d
                induction d using Nat.strongRecOn with
                | _ d ih105 =>
                  intro i μ2 hd2 hA
                  have hF2 := rAu_fr hX.2.2.2 hk2 hA
                  have hc2 := rRep_fr hc hF2
                  refine zU_iload d_R_explore_105 rfl ?_
                  refine zU_aload_n d_R_explore_107 rfl ?_
                  refine zU_getI (v := (aN a : Int)) d_R_explore_108 f_R_98 (by decide) rfl rfl (hc2.1) ?_
                  refine zU_icmp_ge 217 d_R_explore_111 (by decide) (by omega) (by omega) (fun h111 => ?_) (fun h111 => ?_)
                  · have hi0 : i = aN a := by omega
                    subst hi0
                    have hX2 := rAu_end hX hk2 hck hA
                    refine zU_iconst d_R_explore_217 ?_
                    refine zU_istore d_R_explore_218 (by decide) ?_
                    refine zU.eqL (L' := [some (zp 51), some (zi (w : Int)), some (zi (rI r)), none, some (zi (k : Int)), some (zi ((200 * w + k : Nat) : Int)), some (zi 0), none]) rfl ?_
                    have hJ220 : ∀ (d : Nat) (e : Nat) (μ3 : zM), e + d = 12 → rEx a (aMem a r) w (12 * k + e) (k + 1) μ μ3 → zU Γ b_R_explore n_R 8 (some .boolean) [] (zRm 2 0 55) 0 0 (zFin Γ 0 false (zRi (fun r' μ' => ((r' = 1 ∧ ∃ N, gFin (nxtA a (aMem a r)) (cod (aFirst a (aMem a r))) N ∧ 0 < N ∧ N ≤ 200 ∧ rGr a (aMem a r) w N μ' ∧ rBd w N (sB a (aMem a r) (sg a (aMem a r) N)) μ') ∨ (r' = 0 ∧ gMany (nxtA a (aMem a r)) (cod (aFirst a (aMem a r))))) ∧ rFr w μ μ'))) false 0 μ3 220 [some (zp 51), some (zi (w : Int)), some (zi (rI r)), none, some (zi (k : Int)), some (zi ((200 * w + k : Nat) : Int)), some (zi (e : Int)), none] [] := by
                      intro d
                      induction d using Nat.strongRecOn with
                      | _ d ih220 =>
                        intro e μ3 hd3 hX3
                        have hc3 := rRep_fr hc hX3.2.2.2
                        have hck3 := gAt_get (show 12 * k ≤ 12 * k + e by omega) hck
                        refine zU_iload d_R_explore_220 rfl ?_
                        refine zU_bipush d_R_explore_222 (by decide) ?_
                        refine zU_icmp_ge 326 d_R_explore_224 (by decide) (by omega) (by omega) (fun h224 => ?_) (fun h224 => ?_)
                        · refine zU_iinc d_R_explore_326 rfl ?_
                          refine zU.eqL (L' := [some (zp 51), some (zi (w : Int)), some (zi (rI r)), none, some (zi (((k + 1 : Nat) : Int))), some (zi ((200 * w + k : Nat) : Int)), some (zi (e : Int)), none]) (by first | rfl | exact congrArg (fun zz : Int => [some (zp 51), some (zi (w : Int)), some (zi (rI r)), none, some (zi zz), some (zi ((200 * w + k : Nat) : Int)), some (zi (e : Int)), none]) (show ((k : Int) + 1 : Int) = ((k + 1 : Nat) : Int) by omega)) ?_
                          refine zU_goto 65 d_R_explore_329 (by decide) ?_
                          refine zU.drop 5 (L' := [some (zp 51), some (zi (w : Int)), some (zi (rI r)), none, some (zi (((k + 1 : Nat) : Int))), none, some (zi (e : Int)), none]) rfl ?_
                          refine zU.drop 6 (L' := [some (zp 51), some (zi (w : Int)), some (zi (rI r)), none, some (zi (((k + 1 : Nat) : Int))), none, none, none]) rfl ?_
                          exact ih65 (201 - (k + 1)) (by omega) (k + 1) _ (by omega) (by have h9 : 12 * (k + 1) = 12 * k + e := (by omega); rw [h9]; exact hX3) (by have h8 : (gA a (aMem a r) (12 * k)).1.length ≤ (gA a (aMem a r) (12 * (k + 1))).1.length := gAt_len (by omega); omega) (fun j hj => by by_cases h : j = k; { rw [h]; omega }; { exact hks j (by omega) })
                        · have he : e < 12 := by omega
                          have hAr := aAft_r a (aMem a r) c e
                          refine zU_aload_n d_R_explore_227 rfl ?_
                          refine zU_aload_n d_R_explore_228 rfl ?_
                          refine zU_getR 61 d_R_explore_229 f_R_38 (by decide) rfl rfl rfl ?_
                          refine zU_iload d_R_explore_232 rfl ?_
                          refine zU_iald (v := (c6 c : Int)) d_R_explore_234 (by decide) rfl (by decide) (by omega) (hX3.1.2.2 k c hck3) ?_
                          refine zU_iload d_R_explore_235 rfl ?_
                          refine zU_iload_n d_R_explore_237 rfl ?_
                          refine zU_callVi (p0 := 51) [zi ((c6 c : Int)), zi (e : Int), zi (rI r)] d_R_explore_238 k_R_124 rfl (by decide) rfl rfl (by decide) (Nat.le_of_ble_eq_true rfl) (fun l => m_R_after l μ3 ha hc3 hr hv he) (fun r238 μ238 h238 => ?_)
                          obtain ⟨hμ238, rfl⟩ := h238
                          replace hμ238 := hμ238.symm
                          subst hμ238
                          refine zU_istore d_R_explore_241 (by decide) ?_
                          refine zU.eqL (L' := [some (zp 51), some (zi (w : Int)), some (zi (rI r)), none, some (zi (k : Int)), some (zi ((200 * w + k : Nat) : Int)), some (zi (e : Int)), some (zi (aAft a (aMem a r) c e))]) rfl ?_
                          refine zU_aload_n d_R_explore_243 rfl ?_
                          refine zU_getR 63 d_R_explore_244 f_R_44 (by decide) rfl rfl rfl ?_
                          refine zU_bipush d_R_explore_247 (by decide) ?_
                          refine zU_iload d_R_explore_249 rfl ?_
                          refine zU_imul d_R_explore_251 ?_
                          refine zU_iload d_R_explore_252 rfl ?_
                          refine zU_iadd d_R_explore_254 ?_
                          refine zU_iload d_R_explore_255 rfl ?_
                          refine zU_bipush d_R_explore_257 (by decide) ?_
                          have hJ267 : zU Γ b_R_explore n_R 8 (some .boolean) [] (zRm 2 0 55) 0 0 (zFin Γ 0 false (zRi (fun r' μ' => ((r' = 1 ∧ ∃ N, gFin (nxtA a (aMem a r)) (cod (aFirst a (aMem a r))) N ∧ 0 < N ∧ N ≤ 200 ∧ rGr a (aMem a r) w N μ' ∧ rBd w N (sB a (aMem a r) (sg a (aMem a r) N)) μ') ∨ (r' = 0 ∧ gMany (nxtA a (aMem a r)) (cod (aFirst a (aMem a r))))) ∧ rFr w μ μ'))) false 0 μ3 267 [some (zp 51), some (zi (w : Int)), some (zi (rI r)), none, some (zi (k : Int)), some (zi ((200 * w + k : Nat) : Int)), some (zi (e : Int)), some (zi (aAft a (aMem a r) c e))] [zi (zB (aMay a c e)), zi ((12 * ((200 * w + k : Nat) : Int)) + (e : Int)), zp 63] := by
                            refine zU_zast d_R_explore_267 (by decide) rfl (by decide) (by omega) (zB_or _) ?_
                            refine zU.eqM (μ' := (zup μ3 63 (12 * (200 * w + k) + e) (zB (aMay a c e)))) (by rw [show ((12 * ((200 * w + k : Nat) : Int)) + (e : Int)).toNat = 12 * (200 * w + k) + e by omega]) ?_
                            refine zU_aload_n d_R_explore_268 rfl ?_
                            refine zU_getR 62 d_R_explore_269 f_R_41 (by decide) rfl rfl rfl ?_
                            refine zU_bipush d_R_explore_272 (by decide) ?_
                            refine zU_iload d_R_explore_274 rfl ?_
                            refine zU_imul d_R_explore_276 ?_
                            refine zU_iload d_R_explore_277 rfl ?_
                            refine zU_iadd d_R_explore_279 ?_
                            refine zU_iload d_R_explore_280 rfl ?_
                            refine zU_if_ge 289 d_R_explore_282 (by decide) (by omega) (fun h282 => ?_) (fun h282 => ?_)
                            · obtain ⟨dd, hdd, hde⟩ := aAft_s (a := a) (mem := aMem a r) (c := c) (e := e) (by omega)
                              have hdm := c6_max dd
                              refine zU_aload_n d_R_explore_289 rfl ?_
                              refine zU_iload_n d_R_explore_290 rfl ?_
                              refine zU.eqL (L' := [some (zp 51), some (zi (w : Int)), some (zi (rI r)), none, some (zi (k : Int)), some (zi ((200 * w + k : Nat) : Int)), some (zi (e : Int)), some (zi (c6 dd : Int))]) (congrArg (fun zz : Int => [some (zp 51), some (zi (w : Int)), some (zi (rI r)), none, some (zi (k : Int)), some (zi ((200 * w + k : Nat) : Int)), some (zi (e : Int)), some (zi zz)]) (show (aAft a (aMem a r) c e : Int) = (c6 dd : Int) from hde)) ?_
                              refine zU_iload d_R_explore_291 rfl ?_
                              refine zU_callVi (p0 := 51) [zi (w : Int), zi (c6 dd : Int)] d_R_explore_293 k_R_121 rfl (by decide) rfl rfl (by decide) (Nat.le_of_ble_eq_true rfl) (fun l => m_R_placeOf l (zup μ3 63 (12 * (200 * w + k) + e) (zB (aMay a c e))) (L := (gA a (aMem a r) (12 * k + e)).1.map c6) (w := w) (c := c6 dd) hw (by rw [List.length_map]; exact hX3.1.1) (by rw [zup_ne _ _ _ (by decide), List.length_map]; exact hX3.1.2.1) (fun k x h => by obtain ⟨p, hp, hq⟩ := getM h; subst hq; have := c6_max p; exact ⟨by omega, by rw [zup_ne _ _ _ (by decide)]; exact hX3.1.2.2 k p hp⟩) (by omega)) (fun r293 μ293 h293 => ?_)
                              have hp293 := rPl ha hI he hck hdd h293
                              have hr293 : -2147483648 ≤ r293 ∧ r293 ≤ 2147483647 := by
                                have h9 := hX3.1.1
                                rcases hp293 with ⟨_, ⟨j, hj, hr, _⟩ | ⟨_, hl, hr, _⟩⟩ | ⟨hr, _⟩
                                · have := (List.getElem?_eq_some_iff.mp hj).1
                                  omega
                                · omega
                                · omega
                              refine zU_iast d_R_explore_296 (by decide) rfl (by decide) (by omega) ?_
                              obtain ⟨μ5, hμ5⟩ : ∃ μ5, μ5 = zup μ293 62 (12 * (200 * w + k) + e) r293 := ⟨_, rfl⟩
                              refine zU.eqM (μ' := μ5) (by rw [hμ5, show ((12 * ((200 * w + k : Nat) : Int)) + (e : Int)).toNat = 12 * (200 * w + k) + e by omega]) ?_
                              refine zU_iload d_R_explore_297 rfl ?_
                              refine zU_if_lt 320 d_R_explore_299 (by decide) (by omega) (fun h299 => ?_) (fun h299 => ?_)
                              · exfalso; omega
                              · refine zU_aload_n d_R_explore_302 rfl ?_
                                refine zU_getR 62 d_R_explore_303 f_R_41 (by decide) rfl rfl rfl ?_
                                refine zU_bipush d_R_explore_306 (by decide) ?_
                                refine zU_iload d_R_explore_308 rfl ?_
                                refine zU_imul d_R_explore_310 ?_
                                refine zU_iload d_R_explore_311 rfl ?_
                                refine zU_iadd d_R_explore_313 ?_
                                refine zU_iald (v := r293) d_R_explore_314 (by decide) rfl (by decide) (by omega) (by rw [show ((12 * ((200 * w + k : Nat) : Int)) + (e : Int)).toNat = 12 * (200 * w + k) + e by omega, hμ5, zup_at]; simp) ?_
                                refine zU_if_ge 320 d_R_explore_315 (by decide) (hr293) (fun h315 => ?_) (fun h315 => ?_)
                                · have hX5 : rEx a (aMem a r) w (12 * k + (e + 1)) (k + 1) μ μ5 := by rw [hμ5]; rcases hp293 with h | h; exact rEx_step he hX3 hck (Or.inr ⟨dd, hdd, h.2⟩); exact absurd h.1 (by omega)
                                  refine zU_iinc d_R_explore_320 rfl ?_
                                  refine zU.eqL (L' := [some (zp 51), some (zi (w : Int)), some (zi (rI r)), none, some (zi (k : Int)), some (zi ((200 * w + k : Nat) : Int)), some (zi (((e + 1 : Nat) : Int))), some (zi (c6 dd : Int))]) (by first | rfl | exact congrArg (fun zz : Int => [some (zp 51), some (zi (w : Int)), some (zi (rI r)), none, some (zi (k : Int)), some (zi ((200 * w + k : Nat) : Int)), some (zi zz), some (zi (c6 dd : Int))]) (show ((e : Int) + 1 : Int) = ((e + 1 : Nat) : Int) by omega)) ?_
                                  refine zU_goto 220 d_R_explore_323 (by decide) ?_
                                  refine zU.drop 7 (L' := [some (zp 51), some (zi (w : Int)), some (zi (rI r)), none, some (zi (k : Int)), some (zi ((200 * w + k : Nat) : Int)), some (zi (((e + 1 : Nat) : Int))), none]) rfl ?_
                                  exact ih220 (d - 1) (by omega) (e + 1) _ (by omega) hX5
                                · refine zU_iconst d_R_explore_318 ?_
                                  exact zU_ireturn d_R_explore_319 (Or.inr ⟨rfl, by omega⟩) (by decide) (by decide) (⟨_, rfl, Or.inr ⟨rfl, by rcases hp293 with h | h; exact absurd h.1 (by omega); exact h.2.1⟩, by rcases hp293 with h | h; exact absurd h.1 (by omega); rw [hμ5, h.2.2]; exact rFr_up (rFr_up hX3.2.2.2 (by unfold rIn; omega)) (by unfold rIn; omega)⟩)
                            · refine zU_iconst d_R_explore_285 ?_
                              refine zU_goto 296 d_R_explore_286 (by decide) ?_
                              refine zU_iast d_R_explore_296 (by decide) rfl (by decide) (by omega) ?_
                              obtain ⟨μ6, hμ6⟩ : ∃ μ6, μ6 = zup (zup μ3 63 (12 * (200 * w + k) + e) (zB (aMay a c e))) 62 (12 * (200 * w + k) + e) (-1) := ⟨_, rfl⟩
                              refine zU.eqM (μ' := μ6) (by rw [hμ6, show ((12 * ((200 * w + k : Nat) : Int)) + (e : Int)).toNat = 12 * (200 * w + k) + e by omega]) ?_
                              have hX6 : rEx a (aMem a r) w (12 * k + (e + 1)) (k + 1) μ μ6 := by rw [hμ6]; exact rEx_step he hX3 hck (Or.inl ⟨aAft_n (by omega), rfl, rfl⟩)
                              refine zU_iload d_R_explore_297 rfl ?_
                              refine zU_if_lt 320 d_R_explore_299 (by decide) (by omega) (fun h299 => ?_) (fun h299 => ?_)
                              · refine zU_iinc d_R_explore_320 rfl ?_
                                refine zU.eqL (L' := [some (zp 51), some (zi (w : Int)), some (zi (rI r)), none, some (zi (k : Int)), some (zi ((200 * w + k : Nat) : Int)), some (zi (((e + 1 : Nat) : Int))), some (zi (aAft a (aMem a r) c e))]) (by first | rfl | exact congrArg (fun zz : Int => [some (zp 51), some (zi (w : Int)), some (zi (rI r)), none, some (zi (k : Int)), some (zi ((200 * w + k : Nat) : Int)), some (zi zz), some (zi (aAft a (aMem a r) c e))]) (show ((e : Int) + 1 : Int) = ((e + 1 : Nat) : Int) by omega)) ?_
                                refine zU_goto 220 d_R_explore_323 (by decide) ?_
                                refine zU.drop 7 (L' := [some (zp 51), some (zi (w : Int)), some (zi (rI r)), none, some (zi (k : Int)), some (zi ((200 * w + k : Nat) : Int)), some (zi (((e + 1 : Nat) : Int))), none]) rfl ?_
                                exact ih220 (d - 1) (by omega) (e + 1) _ (by omega) hX6
                              · exfalso; omega
                          refine zU_icmp_le 266 d_R_explore_259 (by decide) (by omega) (by omega) (fun h259 => ?_) (fun h259 => ?_)
                          · refine zU_iconst d_R_explore_266 ?_
                            refine zU.eqS (st' := [zi (zB (aMay a c e)), zi ((12 * ((200 * w + k : Nat) : Int)) + (e : Int)), zp 63]) (congrArg (fun zz : Int => [zi zz, zi ((12 * ((200 * w + k : Nat) : Int)) + (e : Int)), zp 63]) (show (0 : Int) = zB (aMay a c e) from (zBf (aAft_m.mp h259)).symm)) ?_
                            exact hJ267 
                          · refine zU_iconst d_R_explore_262 ?_
                            refine zU_goto 267 d_R_explore_263 (by decide) ?_
                            refine zU.eqS (st' := [zi (zB (aMay a c e)), zi ((12 * ((200 * w + k : Nat) : Int)) + (e : Int)), zp 63]) (congrArg (fun zz : Int => [zi zz, zi ((12 * ((200 * w + k : Nat) : Int)) + (e : Int)), zp 63]) (show (1 : Int) = zB (aMay a c e) from (zBt (by cases h9 : aMay a c e; { exact absurd (aAft_m.mpr h9) h259 }; { rfl })).symm)) ?_
                            exact hJ267 
                    exact hJ220 12 0 _ (by omega) hX2
                  · refine zU_bipush d_R_explore_114 (by decide) ?_
                    refine zU_iload d_R_explore_116 rfl ?_
                    refine zU_imul d_R_explore_118 ?_
                    refine zU_aload_n d_R_explore_119 rfl ?_
                    refine zU_getR 61 d_R_explore_120 f_R_38 (by decide) rfl rfl rfl ?_
                    refine zU_iload d_R_explore_123 rfl ?_
                    refine zU_iald (v := (c6 c : Int)) d_R_explore_125 (by decide) rfl (by decide) (by omega) (by show μ2 61 (200 * w + k) = _; rw [hA.1 _ _ (by omega)]; exact hX.1.2.2 k c hck) ?_
                    refine zU_iload d_R_explore_126 rfl ?_
                    refine zU_callSi [zi ((c6 c : Int)), zi (i : Int)] d_R_explore_128 k_R_114 rfl (by decide) (Nat.le_of_ble_eq_true rfl) (fun l => m_R_digit l μ2 (c := c6 c) (i := i) (by omega) (by omega)) (fun r128 μ128 h128 => ?_)
                    obtain ⟨hμ128, hr128⟩ := h128
                    replace hμ128 := hμ128.symm
                    subst hμ128
                    rw [c6_dig ha hv (by omega)] at hr128
                    subst hr128
                    have hi : i < aN a := by omega
                    have hdl : dig c i < 6 := rOk_dig ha hv (by omega)
                    refine zU_iadd d_R_explore_131 ?_
                    refine zU_istore d_R_explore_132 (by decide) ?_
                    refine zU.eqL (L' := [some (zp 51), some (zi (w : Int)), some (zi (rI r)), none, some (zi (k : Int)), some (zi ((200 * w + k : Nat) : Int)), some (zi (i : Int)), some (zi ((6 * (i : Int)) + ((dig c i : Int))))]) rfl ?_
                    refine zU_aload_n d_R_explore_134 rfl ?_
                    refine zU_iload d_R_explore_135 rfl ?_
                    refine zU_iload_n d_R_explore_137 rfl ?_
                    refine zU_callVi (p0 := 51) [zi (i : Int), zi (rI r)] d_R_explore_138 k_R_111 rfl (by decide) rfl rfl (by decide) (Nat.le_of_ble_eq_true rfl) (fun l => m_R_takesPart l μ2 ha hc2 (i := i) hi hr) (fun r138 μ138 h138 => ?_)
                    obtain ⟨hμ138, rfl⟩ := h138
                    replace hμ138 := hμ138.symm
                    subst hμ138
                    refine zU_if_ne 147 d_R_explore_141 (by decide) (zBr _) (fun h141 => ?_) (fun h141 => ?_)
                    · have b141 := zB_nz.mp h141
                      refine zU_aload_n d_R_explore_147 rfl ?_
                      refine zU_getR 64 d_R_explore_148 f_R_47 (by decide) rfl rfl rfl ?_
                      refine zU_iload d_R_explore_151 rfl ?_
                      refine zU_aload_n d_R_explore_153 rfl ?_
                      refine zU_getR 64 d_R_explore_154 f_R_47 (by decide) rfl rfl rfl ?_
                      refine zU_iload d_R_explore_157 rfl ?_
                      refine zU_zald (v := zB ((List.range i).all (fG a (aMem a r) c))) d_R_explore_159 (by decide) rfl (by decide) (by omega) (hA.2.1) ?_
                      have hJ178 : zU Γ b_R_explore n_R 8 (some .boolean) [] (zRm 2 0 55) 0 0 (zFin Γ 0 false (zRi (fun r' μ' => ((r' = 1 ∧ ∃ N, gFin (nxtA a (aMem a r)) (cod (aFirst a (aMem a r))) N ∧ 0 < N ∧ N ≤ 200 ∧ rGr a (aMem a r) w N μ' ∧ rBd w N (sB a (aMem a r) (sg a (aMem a r) N)) μ') ∨ (r' = 0 ∧ gMany (nxtA a (aMem a r)) (cod (aFirst a (aMem a r))))) ∧ rFr w μ μ'))) false 0 μ2 178 [some (zp 51), some (zi (w : Int)), some (zi (rI r)), none, some (zi (k : Int)), some (zi ((200 * w + k : Nat) : Int)), some (zi (i : Int)), some (zi ((6 * (i : Int)) + ((dig c i : Int))))] [zi (zB ((List.range (i + 1)).all (fG a (aMem a r) c))), zi ((200 * w + k : Nat) : Int), zp 64] := by
                        refine zU_zast d_R_explore_178 (by decide) rfl (by decide) (by omega) (zB_or _) ?_
                        refine zU.eqM (μ' := (zup μ2 64 (200 * w + k) (zB ((List.range (i + 1)).all (fG a (aMem a r) c))))) rfl ?_
                        refine zU_aload_n d_R_explore_179 rfl ?_
                        refine zU_getR 65 d_R_explore_180 f_R_50 (by decide) rfl rfl rfl ?_
                        refine zU_iload d_R_explore_183 rfl ?_
                        refine zU_aload_n d_R_explore_185 rfl ?_
                        refine zU_getR 65 d_R_explore_186 f_R_50 (by decide) rfl rfl rfl ?_
                        refine zU_iload d_R_explore_189 rfl ?_
                        refine zU_zald (v := zB ((List.range i).any (fB a (aMem a r) c))) d_R_explore_191 (by decide) rfl (by decide) (by omega) (by show zup _ _ _ _ 65 (200 * w + k) = _; rw [zup_ne _ _ _ (by decide)]; exact hA.2.2) ?_
                        have hJ210 : zU Γ b_R_explore n_R 8 (some .boolean) [] (zRm 2 0 55) 0 0 (zFin Γ 0 false (zRi (fun r' μ' => ((r' = 1 ∧ ∃ N, gFin (nxtA a (aMem a r)) (cod (aFirst a (aMem a r))) N ∧ 0 < N ∧ N ≤ 200 ∧ rGr a (aMem a r) w N μ' ∧ rBd w N (sB a (aMem a r) (sg a (aMem a r) N)) μ') ∨ (r' = 0 ∧ gMany (nxtA a (aMem a r)) (cod (aFirst a (aMem a r))))) ∧ rFr w μ μ'))) false 0 (zup μ2 64 (200 * w + k) (zB ((List.range (i + 1)).all (fG a (aMem a r) c)))) 210 [some (zp 51), some (zi (w : Int)), some (zi (rI r)), none, some (zi (k : Int)), some (zi ((200 * w + k : Nat) : Int)), some (zi (i : Int)), some (zi ((6 * (i : Int)) + ((dig c i : Int))))] [zi (zB ((List.range (i + 1)).any (fB a (aMem a r) c))), zi ((200 * w + k : Nat) : Int), zp 65] := by
                          refine zU_zast d_R_explore_210 (by decide) rfl (by decide) (by omega) (zB_or _) ?_
                          refine zU.eqM (μ' := (zup (zup μ2 64 (200 * w + k) (zB ((List.range (i + 1)).all (fG a (aMem a r) c)))) 65 (200 * w + k) (zB ((List.range (i + 1)).any (fB a (aMem a r) c))))) rfl ?_
                          refine zU_iinc d_R_explore_211 rfl ?_
                          refine zU.eqL (L' := [some (zp 51), some (zi (w : Int)), some (zi (rI r)), none, some (zi (k : Int)), some (zi ((200 * w + k : Nat) : Int)), some (zi (((i + 1 : Nat) : Int))), some (zi ((6 * (i : Int)) + ((dig c i : Int))))]) (by first | rfl | exact congrArg (fun zz : Int => [some (zp 51), some (zi (w : Int)), some (zi (rI r)), none, some (zi (k : Int)), some (zi ((200 * w + k : Nat) : Int)), some (zi zz), some (zi ((6 * (i : Int)) + ((dig c i : Int))))]) (show ((i : Int) + 1 : Int) = ((i + 1 : Nat) : Int) by omega)) ?_
                          refine zU_goto 105 d_R_explore_214 (by decide) ?_
                          refine zU.drop 7 (L' := [some (zp 51), some (zi (w : Int)), some (zi (rI r)), none, some (zi (k : Int)), some (zi ((200 * w + k : Nat) : Int)), some (zi (((i + 1 : Nat) : Int))), none]) rfl ?_
                          exact ih105 (d - 1) (by omega) (i + 1) _ (by omega) (rAu_step hA)
                        refine zU_if_ne 205 d_R_explore_192 (by decide) (zBr _) (fun h192 => ?_) (fun h192 => ?_)
                        · have b192 := zB_nz.mp h192
                          refine zU_iconst d_R_explore_205 ?_
                          refine zU_goto 210 d_R_explore_206 (by decide) ?_
                          refine zU.eqS (st' := [zi (zB ((List.range (i + 1)).any (fB a (aMem a r) c))), zi ((200 * w + k : Nat) : Int), zp 65]) (congrArg (fun zz : Int => [zi zz, zi ((200 * w + k : Nat) : Int), zp 65]) (show (1 : Int) = zB ((List.range (i + 1)).any (fB a (aMem a r) c)) from (zBt (by simp [rng_any, b192])).symm)) ?_
                          exact hJ210 
                        · have b192 := zB_zero.mp h192
                          refine zU_aload_n d_R_explore_195 rfl ?_
                          refine zU_getR 56 d_R_explore_196 f_R_23 (by decide) rfl rfl rfl ?_
                          refine zU_iload d_R_explore_199 rfl ?_
                          refine zU_zald (v := zB (aF a i (dig c i))) d_R_explore_201 (by decide) rfl (by decide) (by omega) (by rw [show ((6 * (i : Int)) + (dig c i : Int)).toNat = 6 * i + dig c i by omega, zup_ne _ _ _ (by decide)]; exact ((hc2.2.1 i hi).2.2.2 (dig c i) hdl).2.1) ?_
                          refine zU_if_eq 209 d_R_explore_202 (by decide) (zBr _) (fun h202 => ?_) (fun h202 => ?_)
                          · have b202 := zB_zero.mp h202
                            refine zU_iconst d_R_explore_209 ?_
                            refine zU.eqS (st' := [zi (zB ((List.range (i + 1)).any (fB a (aMem a r) c))), zi ((200 * w + k : Nat) : Int), zp 65]) (congrArg (fun zz : Int => [zi zz, zi ((200 * w + k : Nat) : Int), zp 65]) (show (0 : Int) = zB ((List.range (i + 1)).any (fB a (aMem a r) c)) from (zBf (by simp [rng_any, b192, fB, b202])).symm)) ?_
                            exact hJ210 
                          · have b202 := zB_nz.mp h202
                            refine zU_iconst d_R_explore_205 ?_
                            refine zU_goto 210 d_R_explore_206 (by decide) ?_
                            refine zU.eqS (st' := [zi (zB ((List.range (i + 1)).any (fB a (aMem a r) c))), zi ((200 * w + k : Nat) : Int), zp 65]) (congrArg (fun zz : Int => [zi zz, zi ((200 * w + k : Nat) : Int), zp 65]) (show (1 : Int) = zB ((List.range (i + 1)).any (fB a (aMem a r) c)) from (zBt (by simp [rng_any, fB, b141, b202])).symm)) ?_
                            exact hJ210 
                      refine zU_if_eq 177 d_R_explore_160 (by decide) (zBr _) (fun h160 => ?_) (fun h160 => ?_)
                      · have b160 := zB_zero.mp h160
                        refine zU_iconst d_R_explore_177 ?_
                        refine zU.eqS (st' := [zi (zB ((List.range (i + 1)).all (fG a (aMem a r) c))), zi ((200 * w + k : Nat) : Int), zp 64]) (congrArg (fun zz : Int => [zi zz, zi ((200 * w + k : Nat) : Int), zp 64]) (show (0 : Int) = zB ((List.range (i + 1)).all (fG a (aMem a r) c)) from (zBf (by simp [rng_all, b160])).symm)) ?_
                        exact hJ178 
                      · have b160 := zB_nz.mp h160
                        refine zU_aload_n d_R_explore_163 rfl ?_
                        refine zU_getR 55 d_R_explore_164 f_R_20 (by decide) rfl rfl rfl ?_
                        refine zU_iload d_R_explore_167 rfl ?_
                        refine zU_zald (v := zB (aM a i (dig c i))) d_R_explore_169 (by decide) rfl (by decide) (by omega) (by rw [show ((6 * (i : Int)) + (dig c i : Int)).toNat = 6 * i + dig c i by omega]; exact ((hc2.2.1 i hi).2.2.2 (dig c i) hdl).1) ?_
                        refine zU_if_eq 177 d_R_explore_170 (by decide) (zBr _) (fun h170 => ?_) (fun h170 => ?_)
                        · have b170 := zB_zero.mp h170
                          refine zU_iconst d_R_explore_177 ?_
                          refine zU.eqS (st' := [zi (zB ((List.range (i + 1)).all (fG a (aMem a r) c))), zi ((200 * w + k : Nat) : Int), zp 64]) (congrArg (fun zz : Int => [zi zz, zi ((200 * w + k : Nat) : Int), zp 64]) (show (0 : Int) = zB ((List.range (i + 1)).all (fG a (aMem a r) c)) from (zBf (by simp [rng_all, fG, b141, b170])).symm)) ?_
                          exact hJ178 
                        · have b170 := zB_nz.mp h170
                          refine zU_iconst d_R_explore_173 ?_
                          refine zU_goto 178 d_R_explore_174 (by decide) ?_
                          refine zU.eqS (st' := [zi (zB ((List.range (i + 1)).all (fG a (aMem a r) c))), zi ((200 * w + k : Nat) : Int), zp 64]) (congrArg (fun zz : Int => [zi zz, zi ((200 * w + k : Nat) : Int), zp 64]) (show (1 : Int) = zB ((List.range (i + 1)).all (fG a (aMem a r) c)) from (zBt (by simp [rng_all, fG, b160, b170])).symm)) ?_
                          exact hJ178 
                    · have b141 := zB_zero.mp h141
                      refine zU_goto 211 d_R_explore_144 (by decide) ?_
                      refine zU_iinc d_R_explore_211 rfl ?_
                      refine zU.eqL (L' := [some (zp 51), some (zi (w : Int)), some (zi (rI r)), none, some (zi (k : Int)), some (zi ((200 * w + k : Nat) : Int)), some (zi (((i + 1 : Nat) : Int))), some (zi ((6 * (i : Int)) + ((dig c i : Int))))]) (by first | rfl | exact congrArg (fun zz : Int => [some (zp 51), some (zi (w : Int)), some (zi (rI r)), none, some (zi (k : Int)), some (zi ((200 * w + k : Nat) : Int)), some (zi zz), some (zi ((6 * (i : Int)) + ((dig c i : Int))))]) (show ((i : Int) + 1 : Int) = ((i + 1 : Nat) : Int) by omega)) ?_
                      refine zU_goto 105 d_R_explore_214 (by decide) ?_
                      refine zU.drop 7 (L' := [some (zp 51), some (zi (w : Int)), some (zi (rI r)), none, some (zi (k : Int)), some (zi ((200 * w + k : Nat) : Int)), some (zi (((i + 1 : Nat) : Int))), none]) rfl ?_
                      exact ih105 (d - 1) (by omega) (i + 1) _ (by omega) (rAu_skip hA b141)
              exact hJ105 (aN a) 0 _ (by omega) (rAu_0 _ _ _ _ _)
        refine zU.drop 3 (L' := [some (zp 51), some (zi (w : Int)), some (zi (rI r)), none, some (zi 0), none, none, none]) rfl ?_
        exact hJ65 201 0 _ (by omega) rEx_0 (by omega) (fun j hj => absurd hj (by omega))
      · have hi : (aN a - 1 - m) < aN a := by omega
        refine zU.eqL (L' := [some (zp 51), some (zi (w : Int)), some (zi (rI r)), some (zi ((t6 (aFirst a (aMem a r)) (aN a) m : Nat) : Int)), some (zi (((aN a - 1 - m) : Nat) : Int)), none, none, none]) (congrArg (fun zz : Int => [some (zp 51), some (zi (w : Int)), some (zi (rI r)), some (zi ((t6 (aFirst a (aMem a r)) (aN a) m : Nat) : Int)), some (zi zz), none, none, none]) (show ((aN a : Int) - 1 - (m : Int) : Int) = (((aN a - 1 - m) : Nat) : Int) by omega)) ?_
        refine zU_bipush d_R_explore_15 (by decide) ?_
        refine zU_iload_n d_R_explore_17 rfl ?_
        refine zU_imul d_R_explore_18 ?_
        refine zU_aload_n d_R_explore_19 rfl ?_
        refine zU_iload d_R_explore_20 rfl ?_
        refine zU_iload_n d_R_explore_22 rfl ?_
        refine zU_callVi (p0 := 51) [zi (((aN a - 1 - m) : Nat) : Int), zi (rI r)] d_R_explore_23 k_R_111 rfl (by decide) rfl rfl (by decide) (Nat.le_of_ble_eq_true rfl) (fun l => m_R_takesPart l μ ha hc (i := (aN a - 1 - m)) (by omega) hr) (fun r23 μ23 h23 => ?_)
        obtain ⟨hμ23, rfl⟩ := h23
        replace hμ23 := hμ23.symm
        subst hμ23
        have hJ40 : zU Γ b_R_explore n_R 8 (some .boolean) [] (zRm 2 0 55) 0 0 (zFin Γ 0 false (zRi (fun r' μ' => ((r' = 1 ∧ ∃ N, gFin (nxtA a (aMem a r)) (cod (aFirst a (aMem a r))) N ∧ 0 < N ∧ N ≤ 200 ∧ rGr a (aMem a r) w N μ' ∧ rBd w N (sB a (aMem a r) (sg a (aMem a r) N)) μ') ∨ (r' = 0 ∧ gMany (nxtA a (aMem a r)) (cod (aFirst a (aMem a r))))) ∧ rFr w μ μ'))) true 0 μ 40 [some (zp 51), some (zi (w : Int)), some (zi (rI r)), some (zi ((t6 (aFirst a (aMem a r)) (aN a) m : Nat) : Int)), some (zi (((aN a - 1 - m) : Nat) : Int)), none, none, none] [zi ((aFirst a (aMem a r) (aN a - 1 - m) : Nat) : Int), zi (6 * ((t6 (aFirst a (aMem a r)) (aN a) m : Nat) : Int))] := by
          refine zU_iadd d_R_explore_40 ?_
          refine zU_istore_n d_R_explore_41 (by decide) ?_
          refine zU.eqL (L' := [some (zp 51), some (zi (w : Int)), some (zi (rI r)), some (zi ((6 * ((t6 (aFirst a (aMem a r)) (aN a) m : Nat) : Int)) + ((aFirst a (aMem a r) (aN a - 1 - m) : Nat) : Int))), some (zi (((aN a - 1 - m) : Nat) : Int)), none, none, none]) rfl ?_
          refine zU.eqL (L' := [some (zp 51), some (zi (w : Int)), some (zi (rI r)), some (zi ((t6 (aFirst a (aMem a r)) (aN a) (m + 1) : Nat) : Int)), some (zi (((aN a - 1 - m) : Nat) : Int)), none, none, none]) (congrArg (fun zz : Int => [some (zp 51), some (zi (w : Int)), some (zi (rI r)), some (zi zz), some (zi (((aN a - 1 - m) : Nat) : Int)), none, none, none]) (show ((6 * ((t6 (aFirst a (aMem a r)) (aN a) m : Nat) : Int)) + ((aFirst a (aMem a r) (aN a - 1 - m) : Nat) : Int) : Int) = ((t6 (aFirst a (aMem a r)) (aN a) (m + 1) : Nat) : Int) by simp only [t6]; omega)) ?_
          refine zU_iinc d_R_explore_42 rfl ?_
          refine zU.eqL (L' := [some (zp 51), some (zi (w : Int)), some (zi (rI r)), some (zi ((t6 (aFirst a (aMem a r)) (aN a) (m + 1) : Nat) : Int)), some (zi (((aN a : Int) - 1 - ((m + 1 : Nat) : Int)))), none, none, none]) (by first | rfl | exact congrArg (fun zz : Int => [some (zp 51), some (zi (w : Int)), some (zi (rI r)), some (zi ((t6 (aFirst a (aMem a r)) (aN a) (m + 1) : Nat) : Int)), some (zi zz), none, none, none]) (show ((((aN a - 1 - m) : Nat) : Int) + (-1) : Int) = ((aN a : Int) - 1 - ((m + 1 : Nat) : Int)) by omega)) ?_
          refine zU_goto 10 d_R_explore_45 (by decide) ?_
          exact ih10 (d - 1) (by omega) (m + 1) (by omega)
        refine zU_if_eq 39 d_R_explore_26 (by decide) (zBr _) (fun h26 => ?_) (fun h26 => ?_)
        · have b26 := zB_zero.mp h26
          refine zU_iconst d_R_explore_39 ?_
          refine zU.eqS (st' := [zi ((aFirst a (aMem a r) (aN a - 1 - m) : Nat) : Int), zi (6 * ((t6 (aFirst a (aMem a r)) (aN a) m : Nat) : Int))]) (congrArg (fun zz : Int => [zi zz, zi (6 * ((t6 (aFirst a (aMem a r)) (aN a) m : Nat) : Int))]) (show (0 : Int) = ((aFirst a (aMem a r) (aN a - 1 - m) : Nat) : Int) by unfold aFirst; rw [b26]; simp)) ?_
          exact hJ40 
        · have b26 := zB_nz.mp h26
          refine zU_aload_n d_R_explore_29 rfl ?_
          refine zU_getR 54 d_R_explore_30 f_R_17 (by decide) rfl rfl rfl ?_
          refine zU_iload d_R_explore_33 rfl ?_
          refine zU_iald (v := aI a (aN a - 1 - m)) d_R_explore_35 (by decide) rfl (by decide) (by omega) ((hc.2.1 _ hi).2.2.1) ?_
          refine zU_goto 40 d_R_explore_36 (by decide) ?_
          refine zU.eqS (st' := [zi ((aFirst a (aMem a r) (aN a - 1 - m) : Nat) : Int), zi (6 * ((t6 (aFirst a (aMem a r)) (aN a) m : Nat) : Int))]) (congrArg (fun zz : Int => [zi zz, zi (6 * ((t6 (aFirst a (aMem a r)) (aN a) m : Nat) : Int))]) (show aI a (aN a - 1 - m) = ((aFirst a (aMem a r) (aN a - 1 - m) : Nat) : Int) by have h9 := hI _ hi b26; unfold aFirst; rw [if_pos ⟨hi, b26⟩]; omega)) ?_
          exact hJ40 
  exact hJ10 (aN a) 0 (by omega)
