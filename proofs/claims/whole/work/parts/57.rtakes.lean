set_option maxRecDepth 100000 in
set_option maxHeartbeats 4000000 in
theorem m_R_takesOut (l : Launch) (μ : zM) {N : Nat} {tg : Nat → Nat → Nat} {U : Nat → Nat → Bool} {C B G K : Nat → Bool} {w : Nat} (hw : w < 3) (hT : rT N tg U C G w μ) (hB : rBd w N K μ) (hA : gAbove N tg U C B G K) :
    zC l y_R_takesOut b_R_takesOut 7 (some .boolean) [] 0 0 0 false [zp 51, zi (w : Int)] μ (zRi (fun r μ' => ∃ K', rF2 w μ μ' ∧ rBd w N K' μ' ∧ gAbove N tg U C B G K' ∧ (∀ k, k < N → K' k = true → K k = true) ∧ ((r = 0 ∧ gPost N tg U C B G K') ∨ (r = 1 ∧ ∃ j, j < N ∧ K' j = false ∧ K j = true)))) := by
  refine zC.of (own := n_R) (L := [some (zp 51), some (zi (w : Int)), none, none, none, none, none]) (by decide) rfl (by simp [zcat]) (Nat.le_of_ble_eq_true rfl) rfl (fun Γ => ?_)
  have hN := hT.2.1
  have ht : ∀ k e, k < N → e < 12 → tg k e ≤ N := fun k e hk he => ((hT.2.2 k hk).2 e he).1.2
  refine zU_iconst d_R_takesOut_0 ?_
  refine zU_istore_n d_R_takesOut_1 (by decide) ?_
  refine zU.eqL (L' := [some (zp 51), some (zi (w : Int)), some (zi 1), none, none, none, none]) rfl ?_
  refine zU_iconst d_R_takesOut_2 ?_
  refine zU_istore_n d_R_takesOut_3 (by decide) ?_
  refine zU.eqL (L' := [some (zp 51), some (zi (w : Int)), some (zi 1), some (zi 0), none, none, none]) rfl ?_
  have hJ4 : ∀ (d : Nat) (k : Nat) (μ1 : zM), k + d = N → rF2 w μ μ1 → rBd w N K μ1 → rRc w k (fun j => K j && G j) μ1 → zU Γ b_R_takesOut n_R 7 (some .boolean) [] (zRm 0 0 0) 0 0 (zFin Γ 0 false (zRi (fun r μ' => ∃ K', rF2 w μ μ' ∧ rBd w N K' μ' ∧ gAbove N tg U C B G K' ∧ (∀ k, k < N → K' k = true → K k = true) ∧ ((r = 0 ∧ gPost N tg U C B G K') ∨ (r = 1 ∧ ∃ j, j < N ∧ K' j = false ∧ K j = true))))) false 0 μ1 4 [some (zp 51), some (zi (w : Int)), some (zi 1), some (zi (k : Int)), none, none, none] [] := by
    intro d
    induction d using Nat.strongRecOn with
    | _ d ih4 =>
      intro k μ1 hd hF hB1 hR1
      have hT1 := rT_fr hT hF
      refine zU_iload_n d_R_takesOut_4 rfl ?_
      refine zU_aload_n d_R_takesOut_5 rfl ?_
      refine zU_getR 60 d_R_takesOut_6 f_R_35 (by decide) rfl rfl rfl ?_
      refine zU_iload_n d_R_takesOut_9 rfl ?_
      refine zU_iald (v := (N : Int)) d_R_takesOut_10 (by decide) rfl (by decide) (by omega) (hT1.1) ?_
      refine zU_icmp_ge 67 d_R_takesOut_11 (by decide) (by omega) (by omega) (fun h11 => ?_) (fun h11 => ?_)
      · have hJ67 : ∀ (d : Nat) (X : Nat → Bool) (bm : Bool) (μ1 : zM), 2 * (N - cnt X N) + (if bm = true then 1 else 0) ≤ d → rF2 w μ μ1 → rBd w N K μ1 → rRc w N X μ1 → rGo N tg K G X → (bm = false → ∀ k, k < N → nX tg K X k 12 = X k) → zU Γ b_R_takesOut n_R 7 (some .boolean) [] (zRm 0 0 0) 0 0 (zFin Γ 0 false (zRi (fun r μ' => ∃ K', rF2 w μ μ' ∧ rBd w N K' μ' ∧ gAbove N tg U C B G K' ∧ (∀ k, k < N → K' k = true → K k = true) ∧ ((r = 0 ∧ gPost N tg U C B G K') ∨ (r = 1 ∧ ∃ j, j < N ∧ K' j = false ∧ K j = true))))) false 0 μ1 67 [some (zp 51), some (zi (w : Int)), some (zi (zB bm)), none, none, none, none] [] := by
          intro d
          induction d using Nat.strongRecOn with
          | _ d ih67 =>
            intro X bm μ1 hd hF hB1 hR1 hGo hCl
            have hT1 := rT_fr hT hF
            refine zU_iload_n d_R_takesOut_67 rfl ?_
            refine zU_if_eq 224 d_R_takesOut_68 (by decide) (zBr _) (fun h68 => ?_) (fun h68 => ?_)
            · have b68 := zB_zero.mp h68
              have hXe := rGo_end hGo ht (hCl b68)
              refine zU.eqL (L' := [some (zp 51), some (zi (w : Int)), some (zi (zB false)), none, none, none, none]) (congrArg (fun zz : Int => [some (zp 51), some (zi (w : Int)), some (zi zz), none, none, none, none]) (show (zB bm : Int) = (zB false) by rw [b68])) ?_
              refine zU_iconst d_R_takesOut_224 ?_
              refine zU_istore_n d_R_takesOut_225 (by decide) ?_
              refine zU.eqL (L' := [some (zp 51), some (zi (w : Int)), some (zi (zB false)), some (zi 0), none, none, none]) rfl ?_
              have hJ226 : ∀ (d : Nat) (k : Nat) (K' : Nat → Bool) (bm' : Bool) (μ2 : zM), k + d = N → rF2 w μ μ2 → rBd w N K' μ2 → rRc w N X μ2 → gAbove N tg U C B G K' → rDr N tg U C K X K' bm' k → zU Γ b_R_takesOut n_R 7 (some .boolean) [] (zRm 0 0 0) 0 0 (zFin Γ 0 false (zRi (fun r μ' => ∃ K', rF2 w μ μ' ∧ rBd w N K' μ' ∧ gAbove N tg U C B G K' ∧ (∀ k, k < N → K' k = true → K k = true) ∧ ((r = 0 ∧ gPost N tg U C B G K') ∨ (r = 1 ∧ ∃ j, j < N ∧ K' j = false ∧ K j = true))))) false 0 μ2 226 [some (zp 51), some (zi (w : Int)), some (zi (zB bm')), some (zi (k : Int)), none, none, none] [] := by
                intro d
                induction d using Nat.strongRecOn with
                | _ d ih226 =>
                  intro k K' bm' μ2 hd2 hF2 hB2 hR2 hA2 hDr
                  have hT2 := rT_fr hT hF2
                  refine zU_iload_n d_R_takesOut_226 rfl ?_
                  refine zU_aload_n d_R_takesOut_227 rfl ?_
                  refine zU_getR 60 d_R_takesOut_228 f_R_35 (by decide) rfl rfl rfl ?_
                  refine zU_iload_n d_R_takesOut_231 rfl ?_
                  refine zU_iald (v := (N : Int)) d_R_takesOut_232 (by decide) rfl (by decide) (by omega) (hT2.1) ?_
                  refine zU_icmp_ge 390 d_R_takesOut_233 (by decide) (by omega) (by omega) (fun h233 => ?_) (fun h233 => ?_)
                  · refine zU_iload_n d_R_takesOut_390 rfl ?_
                    exact zU_ireturn d_R_takesOut_391 (Or.inr ⟨rfl, zB_or _⟩) (by decide) (by decide) (⟨_, rfl, K', hF2, hB2, hA2, hDr.1, by rcases rDr_end (by rw [show k = N by omega] at hDr; exact hDr) hA2 hGo.1 with ⟨h1, h2⟩ | ⟨h1, h2⟩; { exact Or.inl ⟨by rw [h1]; rfl, h2⟩ }; { exact Or.inr ⟨by rw [h1]; rfl, h2⟩ }⟩)
                  · have hk : k < N := by omega
                    refine zU_sipush d_R_takesOut_236 (by decide) ?_
                    refine zU_iload_n d_R_takesOut_239 rfl ?_
                    refine zU_imul d_R_takesOut_240 ?_
                    refine zU_iload_n d_R_takesOut_241 rfl ?_
                    refine zU_iadd d_R_takesOut_242 ?_
                    refine zU_istore d_R_takesOut_243 (by decide) ?_
                    refine zU.eqL (L' := [some (zp 51), some (zi (w : Int)), some (zi (zB bm')), some (zi (k : Int)), some (zi ((200 * (w : Int)) + (k : Int))), none, none]) rfl ?_
                    refine zU.eqL (L' := [some (zp 51), some (zi (w : Int)), some (zi (zB bm')), some (zi (k : Int)), some (zi ((200 * w + k : Nat) : Int)), none, none]) (congrArg (fun zz : Int => [some (zp 51), some (zi (w : Int)), some (zi (zB bm')), some (zi (k : Int)), some (zi zz), none, none]) (show ((200 * (w : Int)) + (k : Int) : Int) = ((200 * w + k : Nat) : Int) by omega)) ?_
                    refine zU_aload_n d_R_takesOut_245 rfl ?_
                    refine zU_getR 66 d_R_takesOut_246 f_R_53 (by decide) rfl rfl rfl ?_
                    refine zU_iload d_R_takesOut_249 rfl ?_
                    refine zU_zald (v := zB (X k)) d_R_takesOut_251 (by decide) rfl (by decide) (by omega) (hR2 k hk) ?_
                    have hJ260 : zU Γ b_R_takesOut n_R 7 (some .boolean) [] (zRm 0 0 0) 0 0 (zFin Γ 0 false (zRi (fun r μ' => ∃ K', rF2 w μ μ' ∧ rBd w N K' μ' ∧ gAbove N tg U C B G K' ∧ (∀ k, k < N → K' k = true → K k = true) ∧ ((r = 0 ∧ gPost N tg U C B G K') ∨ (r = 1 ∧ ∃ j, j < N ∧ K' j = false ∧ K j = true))))) false 0 μ2 260 [some (zp 51), some (zi (w : Int)), some (zi (zB bm')), some (zi (k : Int)), some (zi ((200 * w + k : Nat) : Int)), none, none] [zi (zB (!X k))] := by
                      refine zU_istore d_R_takesOut_260 (by decide) ?_
                      refine zU.eqL (L' := [some (zp 51), some (zi (w : Int)), some (zi (zB bm')), some (zi (k : Int)), some (zi ((200 * w + k : Nat) : Int)), some (zi (zB (!X k))), none]) rfl ?_
                      refine zU.eqL (L' := [some (zp 51), some (zi (w : Int)), some (zi (zB bm')), some (zi (k : Int)), some (zi ((200 * w + k : Nat) : Int)), some (zi (zB (dX tg U C K' X k 0))), none]) (congrArg (fun zz : Int => [some (zp 51), some (zi (w : Int)), some (zi (zB bm')), some (zi (k : Int)), some (zi ((200 * w + k : Nat) : Int)), some (zi zz), none]) (show (zB (!X k) : Int) = (zB (dX tg U C K' X k 0)) by simp [dX])) ?_
                      refine zU_iconst d_R_takesOut_262 ?_
                      refine zU_istore d_R_takesOut_263 (by decide) ?_
                      refine zU.eqL (L' := [some (zp 51), some (zi (w : Int)), some (zi (zB bm')), some (zi (k : Int)), some (zi ((200 * w + k : Nat) : Int)), some (zi (zB (dX tg U C K' X k 0))), some (zi 0)]) rfl ?_
                      have hJ265 : ∀ (d : Nat) (e : Nat), e + d = 12 → zU Γ b_R_takesOut n_R 7 (some .boolean) [] (zRm 0 0 0) 0 0 (zFin Γ 0 false (zRi (fun r μ' => ∃ K', rF2 w μ μ' ∧ rBd w N K' μ' ∧ gAbove N tg U C B G K' ∧ (∀ k, k < N → K' k = true → K k = true) ∧ ((r = 0 ∧ gPost N tg U C B G K') ∨ (r = 1 ∧ ∃ j, j < N ∧ K' j = false ∧ K j = true))))) false 0 μ2 265 [some (zp 51), some (zi (w : Int)), some (zi (zB bm')), some (zi (k : Int)), some (zi ((200 * w + k : Nat) : Int)), some (zi (zB (dX tg U C K' X k e))), some (zi (e : Int))] [] := by
                        intro d
                        induction d using Nat.strongRecOn with
                        | _ d ih265 =>
                          intro e hd3
                          refine zU_iload d_R_takesOut_265 rfl ?_
                          refine zU_bipush d_R_takesOut_267 (by decide) ?_
                          refine zU_icmp_ge 359 d_R_takesOut_269 (by decide) (by omega) (by omega) (fun h269 => ?_) (fun h269 => ?_)
                          · refine zU.eqL (L' := [some (zp 51), some (zi (w : Int)), some (zi (zB bm')), some (zi (k : Int)), some (zi ((200 * w + k : Nat) : Int)), some (zi (zB (dX tg U C K' X k 12))), some (zi (e : Int))]) (congrArg (fun zz : Int => [some (zp 51), some (zi (w : Int)), some (zi (zB bm')), some (zi (k : Int)), some (zi ((200 * w + k : Nat) : Int)), some (zi zz), some (zi (e : Int))]) (show (zB (dX tg U C K' X k e) : Int) = (zB (dX tg U C K' X k 12)) by rw [show e = 12 by omega])) ?_
                            refine zU_aload_n d_R_takesOut_359 rfl ?_
                            refine zU_getR 65 d_R_takesOut_360 f_R_50 (by decide) rfl rfl rfl ?_
                            refine zU_iload d_R_takesOut_363 rfl ?_
                            refine zU_zald (v := zB (!K' k)) d_R_takesOut_365 (by decide) rfl (by decide) (by omega) (hB2 k hk) ?_
                            refine zU_if_ne 384 d_R_takesOut_366 (by decide) (zBr _) (fun h366 => ?_) (fun h366 => ?_)
                            · have b366 := zB_nz.mp h366
                              refine zU_iinc d_R_takesOut_384 rfl ?_
                              refine zU.eqL (L' := [some (zp 51), some (zi (w : Int)), some (zi (zB bm')), some (zi (((k + 1 : Nat) : Int))), some (zi ((200 * w + k : Nat) : Int)), some (zi (zB (dX tg U C K' X k 12))), some (zi (e : Int))]) (by first | rfl | exact congrArg (fun zz : Int => [some (zp 51), some (zi (w : Int)), some (zi (zB bm')), some (zi zz), some (zi ((200 * w + k : Nat) : Int)), some (zi (zB (dX tg U C K' X k 12))), some (zi (e : Int))]) (show ((k : Int) + 1 : Int) = ((k + 1 : Nat) : Int) by omega)) ?_
                              refine zU_goto 226 d_R_takesOut_387 (by decide) ?_
                              refine zU.drop 4 (L' := [some (zp 51), some (zi (w : Int)), some (zi (zB bm')), some (zi (((k + 1 : Nat) : Int))), none, some (zi (zB (dX tg U C K' X k 12))), some (zi (e : Int))]) rfl ?_
                              refine zU.drop 5 (L' := [some (zp 51), some (zi (w : Int)), some (zi (zB bm')), some (zi (((k + 1 : Nat) : Int))), none, none, some (zi (e : Int))]) rfl ?_
                              refine zU.drop 6 (L' := [some (zp 51), some (zi (w : Int)), some (zi (zB bm')), some (zi (((k + 1 : Nat) : Int))), none, none, none]) rfl ?_
                              exact ih226 (N - (k + 1)) (by omega) (k + 1) K' bm' μ2 (by omega) hF2 hB2 hR2 hA2 (rDr_stay hDr (fun h9 => by simp [h9] at b366))
                            · have b366 := zB_zero.mp h366
                              refine zU_iload d_R_takesOut_369 rfl ?_
                              refine zU_if_eq 384 d_R_takesOut_371 (by decide) (zBr _) (fun h371 => ?_) (fun h371 => ?_)
                              · have b371 := zB_zero.mp h371
                                refine zU_iinc d_R_takesOut_384 rfl ?_
                                refine zU.eqL (L' := [some (zp 51), some (zi (w : Int)), some (zi (zB bm')), some (zi (((k + 1 : Nat) : Int))), some (zi ((200 * w + k : Nat) : Int)), some (zi (zB (dX tg U C K' X k 12))), some (zi (e : Int))]) (by first | rfl | exact congrArg (fun zz : Int => [some (zp 51), some (zi (w : Int)), some (zi (zB bm')), some (zi zz), some (zi ((200 * w + k : Nat) : Int)), some (zi (zB (dX tg U C K' X k 12))), some (zi (e : Int))]) (show ((k : Int) + 1 : Int) = ((k + 1 : Nat) : Int) by omega)) ?_
                                refine zU_goto 226 d_R_takesOut_387 (by decide) ?_
                                refine zU.drop 4 (L' := [some (zp 51), some (zi (w : Int)), some (zi (zB bm')), some (zi (((k + 1 : Nat) : Int))), none, some (zi (zB (dX tg U C K' X k 12))), some (zi (e : Int))]) rfl ?_
                                refine zU.drop 5 (L' := [some (zp 51), some (zi (w : Int)), some (zi (zB bm')), some (zi (((k + 1 : Nat) : Int))), none, none, some (zi (e : Int))]) rfl ?_
                                refine zU.drop 6 (L' := [some (zp 51), some (zi (w : Int)), some (zi (zB bm')), some (zi (((k + 1 : Nat) : Int))), none, none, none]) rfl ?_
                                exact ih226 (N - (k + 1)) (by omega) (k + 1) K' bm' μ2 (by omega) hF2 hB2 hR2 hA2 (rDr_stay hDr (fun _ => b371))
                              · have b371 := zB_nz.mp h371
                                refine zU_aload_n d_R_takesOut_374 rfl ?_
                                refine zU_getR 65 d_R_takesOut_375 f_R_50 (by decide) rfl rfl rfl ?_
                                refine zU_iload d_R_takesOut_378 rfl ?_
                                refine zU_iconst d_R_takesOut_380 ?_
                                refine zU_zast d_R_takesOut_381 (by decide) rfl (by decide) (by omega) (Or.inr rfl) ?_
                                refine zU.eqM (μ' := zup μ2 65 (200 * w + k) 1) rfl ?_
                                refine zU_iconst d_R_takesOut_382 ?_
                                refine zU_istore_n d_R_takesOut_383 (by decide) ?_
                                refine zU.eqL (L' := [some (zp 51), some (zi (w : Int)), some (zi 1), some (zi (k : Int)), some (zi ((200 * w + k : Nat) : Int)), some (zi (zB (dX tg U C K' X k 12))), some (zi (e : Int))]) rfl ?_
                                refine zU_iinc d_R_takesOut_384 rfl ?_
                                refine zU.eqL (L' := [some (zp 51), some (zi (w : Int)), some (zi 1), some (zi (((k + 1 : Nat) : Int))), some (zi ((200 * w + k : Nat) : Int)), some (zi (zB (dX tg U C K' X k 12))), some (zi (e : Int))]) (by first | rfl | exact congrArg (fun zz : Int => [some (zp 51), some (zi (w : Int)), some (zi 1), some (zi zz), some (zi ((200 * w + k : Nat) : Int)), some (zi (zB (dX tg U C K' X k 12))), some (zi (e : Int))]) (show ((k : Int) + 1 : Int) = ((k + 1 : Nat) : Int) by omega)) ?_
                                refine zU_goto 226 d_R_takesOut_387 (by decide) ?_
                                refine zU.drop 4 (L' := [some (zp 51), some (zi (w : Int)), some (zi 1), some (zi (((k + 1 : Nat) : Int))), none, some (zi (zB (dX tg U C K' X k 12))), some (zi (e : Int))]) rfl ?_
                                refine zU.drop 5 (L' := [some (zp 51), some (zi (w : Int)), some (zi 1), some (zi (((k + 1 : Nat) : Int))), none, none, some (zi (e : Int))]) rfl ?_
                                refine zU.drop 6 (L' := [some (zp 51), some (zi (w : Int)), some (zi 1), some (zi (((k + 1 : Nat) : Int))), none, none, none]) rfl ?_
                                exact ih226 (N - (k + 1)) (by omega) (k + 1) (bup K' k false) true _ (by omega) (rF2_up hF2 (Or.inl rfl) (by omega)) (rBd_up hB2) (rRc_65 hR2) (rAb_drop hA2 hA hXe ht hk b371) (rDr_drop hDr hk (by simpa using b366))
                          · have he : e < 12 := by omega
                            have hte := ht k e hk he
                            refine zU_iload d_R_takesOut_272 rfl ?_
                            have hJ351 : zU Γ b_R_takesOut n_R 7 (some .boolean) [] (zRm 0 0 0) 0 0 (zFin Γ 0 false (zRi (fun r μ' => ∃ K', rF2 w μ μ' ∧ rBd w N K' μ' ∧ gAbove N tg U C B G K' ∧ (∀ k, k < N → K' k = true → K k = true) ∧ ((r = 0 ∧ gPost N tg U C B G K') ∨ (r = 1 ∧ ∃ j, j < N ∧ K' j = false ∧ K j = true))))) false 0 μ2 351 [some (zp 51), some (zi (w : Int)), some (zi (zB bm')), some (zi (k : Int)), some (zi ((200 * w + k : Nat) : Int)), some (zi (zB (dX tg U C K' X k e))), some (zi (e : Int))] [zi (zB (dX tg U C K' X k (e + 1)))] := by
                              refine zU_istore d_R_takesOut_351 (by decide) ?_
                              refine zU.eqL (L' := [some (zp 51), some (zi (w : Int)), some (zi (zB bm')), some (zi (k : Int)), some (zi ((200 * w + k : Nat) : Int)), some (zi (zB (dX tg U C K' X k (e + 1)))), some (zi (e : Int))]) rfl ?_
                              refine zU_iinc d_R_takesOut_353 rfl ?_
                              refine zU.eqL (L' := [some (zp 51), some (zi (w : Int)), some (zi (zB bm')), some (zi (k : Int)), some (zi ((200 * w + k : Nat) : Int)), some (zi (zB (dX tg U C K' X k (e + 1)))), some (zi (((e + 1 : Nat) : Int)))]) (by first | rfl | exact congrArg (fun zz : Int => [some (zp 51), some (zi (w : Int)), some (zi (zB bm')), some (zi (k : Int)), some (zi ((200 * w + k : Nat) : Int)), some (zi (zB (dX tg U C K' X k (e + 1)))), some (zi zz)]) (show ((e : Int) + 1 : Int) = ((e + 1 : Nat) : Int) by omega)) ?_
                              refine zU_goto 265 d_R_takesOut_356 (by decide) ?_
                              exact ih265 (d - 1) (by omega) (e + 1) (by omega)
                            refine zU_if_ne 346 d_R_takesOut_274 (by decide) (zBr _) (fun h274 => ?_) (fun h274 => ?_)
                            · have b274 := zB_nz.mp h274
                              refine zU_iconst d_R_takesOut_346 ?_
                              refine zU_goto 351 d_R_takesOut_347 (by decide) ?_
                              refine zU.eqS (st' := [zi (zB (dX tg U C K' X k (e + 1)))]) (congrArg (fun zz : Int => [zi zz]) (show (1 : Int) = zB (dX tg U C K' X k (e + 1)) from (zBt (by rw [dX_s, b274]; rfl)).symm)) ?_
                              exact hJ351 
                            · have b274 := zB_zero.mp h274
                              refine zU_aload_n d_R_takesOut_277 rfl ?_
                              refine zU_getR 63 d_R_takesOut_278 f_R_44 (by decide) rfl rfl rfl ?_
                              refine zU_bipush d_R_takesOut_281 (by decide) ?_
                              refine zU_iload d_R_takesOut_283 rfl ?_
                              refine zU_imul d_R_takesOut_285 ?_
                              refine zU_iload d_R_takesOut_286 rfl ?_
                              refine zU_iadd d_R_takesOut_288 ?_
                              refine zU_zald (v := zB (U k e)) d_R_takesOut_289 (by decide) rfl (by decide) (by omega) (by rw [show ((12 * ((200 * w + k : Nat) : Int)) + (e : Int)).toNat = 12 * (200 * w + k) + e by omega]; exact ((hT2.2.2 k hk).2 e he).2.1) ?_
                              refine zU_if_eq 350 d_R_takesOut_290 (by decide) (zBr _) (fun h290 => ?_) (fun h290 => ?_)
                              · have b290 := zB_zero.mp h290
                                refine zU_iconst d_R_takesOut_350 ?_
                                refine zU.eqS (st' := [zi (zB (dX tg U C K' X k (e + 1)))]) (congrArg (fun zz : Int => [zi zz]) (show (0 : Int) = zB (dX tg U C K' X k (e + 1)) from (zBf (by rw [dX_s, b274, b290]; rfl)).symm)) ?_
                                exact hJ351 
                              · have b290 := zB_nz.mp h290
                                refine zU_aload_n d_R_takesOut_293 rfl ?_
                                refine zU_getR 59 d_R_takesOut_294 f_R_32 (by decide) rfl rfl rfl ?_
                                refine zU_iload d_R_takesOut_297 rfl ?_
                                refine zU_zald (v := zB (C e)) d_R_takesOut_299 (by decide) rfl (by decide) (by omega) (by exact ((hT2.2.2 k hk).2 e he).2.2 b290) ?_
                                refine zU_if_ne 350 d_R_takesOut_300 (by decide) (zBr _) (fun h300 => ?_) (fun h300 => ?_)
                                · have b300 := zB_nz.mp h300
                                  refine zU_iconst d_R_takesOut_350 ?_
                                  refine zU.eqS (st' := [zi (zB (dX tg U C K' X k (e + 1)))]) (congrArg (fun zz : Int => [zi zz]) (show (0 : Int) = zB (dX tg U C K' X k (e + 1)) from (zBf (by rw [dX_s, b274, b300]; simp)).symm)) ?_
                                  exact hJ351 
                                · have b300 := zB_zero.mp h300
                                  refine zU_aload_n d_R_takesOut_303 rfl ?_
                                  refine zU_getR 62 d_R_takesOut_304 f_R_41 (by decide) rfl rfl rfl ?_
                                  refine zU_bipush d_R_takesOut_307 (by decide) ?_
                                  refine zU_iload d_R_takesOut_309 rfl ?_
                                  refine zU_imul d_R_takesOut_311 ?_
                                  refine zU_iload d_R_takesOut_312 rfl ?_
                                  refine zU_iadd d_R_takesOut_314 ?_
                                  refine zU_iald (v := (tg k e : Int) - 1) d_R_takesOut_315 (by decide) rfl (by decide) (by omega) (by rw [show ((12 * ((200 * w + k : Nat) : Int)) + (e : Int)).toNat = 12 * (200 * w + k) + e by omega]; exact ((hT2.2.2 k hk).2 e he).1.1) ?_
                                  refine zU_if_lt 346 d_R_takesOut_316 (by decide) (by omega) (fun h316 => ?_) (fun h316 => ?_)
                                  · refine zU_iconst d_R_takesOut_346 ?_
                                    refine zU_goto 351 d_R_takesOut_347 (by decide) ?_
                                    refine zU.eqS (st' := [zi (zB (dX tg U C K' X k (e + 1)))]) (congrArg (fun zz : Int => [zi zz]) (show (1 : Int) = zB (dX tg U C K' X k (e + 1)) from (zBt (by rw [dX_s, b290, b300, ktg_0 (by omega)]; simp)).symm)) ?_
                                    exact hJ351 
                                  · refine zU_aload_n d_R_takesOut_319 rfl ?_
                                    refine zU_getR 65 d_R_takesOut_320 f_R_50 (by decide) rfl rfl rfl ?_
                                    refine zU_sipush d_R_takesOut_323 (by decide) ?_
                                    refine zU_iload_n d_R_takesOut_326 rfl ?_
                                    refine zU_imul d_R_takesOut_327 ?_
                                    refine zU_aload_n d_R_takesOut_328 rfl ?_
                                    refine zU_getR 62 d_R_takesOut_329 f_R_41 (by decide) rfl rfl rfl ?_
                                    refine zU_bipush d_R_takesOut_332 (by decide) ?_
                                    refine zU_iload d_R_takesOut_334 rfl ?_
                                    refine zU_imul d_R_takesOut_336 ?_
                                    refine zU_iload d_R_takesOut_337 rfl ?_
                                    refine zU_iadd d_R_takesOut_339 ?_
                                    refine zU_iald (v := (tg k e : Int) - 1) d_R_takesOut_340 (by decide) rfl (by decide) (by omega) (by rw [show ((12 * ((200 * w + k : Nat) : Int)) + (e : Int)).toNat = 12 * (200 * w + k) + e by omega]; exact ((hT2.2.2 k hk).2 e he).1.1) ?_
                                    refine zU_iadd d_R_takesOut_341 ?_
                                    refine zU_zald (v := zB (!K' (tg k e - 1))) d_R_takesOut_342 (by decide) rfl (by decide) (by omega) (by rw [show ((200 * (w : Int)) + ((tg k e : Int) - 1)).toNat = 200 * w + (tg k e - 1) by omega]; exact hB2 _ (by omega)) ?_
                                    refine zU_if_eq 350 d_R_takesOut_343 (by decide) (zBr _) (fun h343 => ?_) (fun h343 => ?_)
                                    · have b343 := zB_zero.mp h343
                                      refine zU_iconst d_R_takesOut_350 ?_
                                      refine zU.eqS (st' := [zi (zB (dX tg U C K' X k (e + 1)))]) (congrArg (fun zz : Int => [zi zz]) (show (0 : Int) = zB (dX tg U C K' X k (e + 1)) from (zBf (by rw [dX_s, b274, ktg_t (by omega) (by simpa using b343)]; simp; omega)).symm)) ?_
                                      exact hJ351 
                                    · have b343 := zB_nz.mp h343
                                      refine zU_iconst d_R_takesOut_346 ?_
                                      refine zU_goto 351 d_R_takesOut_347 (by decide) ?_
                                      refine zU.eqS (st' := [zi (zB (dX tg U C K' X k (e + 1)))]) (congrArg (fun zz : Int => [zi zz]) (show (1 : Int) = zB (dX tg U C K' X k (e + 1)) from (zBt (by rw [dX_s, b290, b300, ktg_K (by simpa using b343)]; simp)).symm)) ?_
                                      exact hJ351 
                      exact hJ265 12 0 (by omega)
                    refine zU_if_ne 259 d_R_takesOut_252 (by decide) (zBr _) (fun h252 => ?_) (fun h252 => ?_)
                    · have b252 := zB_nz.mp h252
                      refine zU_iconst d_R_takesOut_259 ?_
                      refine zU.eqS (st' := [zi (zB (!X k))]) (congrArg (fun zz : Int => [zi zz]) (show (0 : Int) = zB (!X k) from (zBf (by rw [b252]; rfl)).symm)) ?_
                      exact hJ260 
                    · have b252 := zB_zero.mp h252
                      refine zU_iconst d_R_takesOut_255 ?_
                      refine zU_goto 260 d_R_takesOut_256 (by decide) ?_
                      refine zU.eqS (st' := [zi (zB (!X k))]) (congrArg (fun zz : Int => [zi zz]) (show (1 : Int) = zB (!X k) from (zBt (by rw [b252]; rfl)).symm)) ?_
                      exact hJ260 
              exact hJ226 N 0 K false μ1 (by omega) hF hB1 hR1 hA (rDr_0 _ _ _ _ _ _)
            · have b68 := zB_nz.mp h68
              rw [b68, if_pos rfl] at hd
              refine zU_iconst d_R_takesOut_71 ?_
              refine zU_istore_n d_R_takesOut_72 (by decide) ?_
              refine zU.eqL (L' := [some (zp 51), some (zi (w : Int)), some (zi 0), none, none, none, none]) rfl ?_
              refine zU_iconst d_R_takesOut_73 ?_
              refine zU_istore_n d_R_takesOut_74 (by decide) ?_
              refine zU.eqL (L' := [some (zp 51), some (zi (w : Int)), some (zi 0), some (zi 0), none, none, none]) rfl ?_
              have hJ75 : ∀ (d : Nat) (k : Nat) (X' : Nat → Bool) (bm' : Bool) (μ2 : zM), k + d = N → rF2 w μ μ2 → rBd w N K μ2 → rRc w N X' μ2 → rGo N tg K G X' → rPs N tg K X X' bm' k → zU Γ b_R_takesOut n_R 7 (some .boolean) [] (zRm 0 0 0) 0 0 (zFin Γ 0 false (zRi (fun r μ' => ∃ K', rF2 w μ μ' ∧ rBd w N K' μ' ∧ gAbove N tg U C B G K' ∧ (∀ k, k < N → K' k = true → K k = true) ∧ ((r = 0 ∧ gPost N tg U C B G K') ∨ (r = 1 ∧ ∃ j, j < N ∧ K' j = false ∧ K j = true))))) false 0 μ2 75 [some (zp 51), some (zi (w : Int)), some (zi (zB bm')), some (zi (k : Int)), none, none, none] [] := by
                intro d
                induction d using Nat.strongRecOn with
                | _ d ih75 =>
                  intro k X' bm' μ2 hd2 hF2 hB2 hR2 hGo2 hPs
                  have hT2 := rT_fr hT hF2
                  refine zU_iload_n d_R_takesOut_75 rfl ?_
                  refine zU_aload_n d_R_takesOut_76 rfl ?_
                  refine zU_getR 60 d_R_takesOut_77 f_R_35 (by decide) rfl rfl rfl ?_
                  refine zU_iload_n d_R_takesOut_80 rfl ?_
                  refine zU_iald (v := (N : Int)) d_R_takesOut_81 (by decide) rfl (by decide) (by omega) (hT2.1) ?_
                  refine zU_icmp_ge 221 d_R_takesOut_82 (by decide) (by omega) (by omega) (fun h82 => ?_) (fun h82 => ?_)
                  · have hkN : k = N := by omega
                    have hE := rPs_end (by rw [hkN] at hPs; exact hPs)
                    refine zU_goto 67 d_R_takesOut_221 (by decide) ?_
                    refine zU.drop 3 (L' := [some (zp 51), some (zi (w : Int)), some (zi (zB bm')), none, none, none, none]) rfl ?_
                    exact ih67 _ (Nat.lt_of_lt_of_le hE.1 hd) X' bm' μ2 (Nat.le_refl _) hF2 hB2 hR2 hGo2 hE.2
                  · have hk : k < N := by omega
                    have ht2 := ht k
                    refine zU_sipush d_R_takesOut_85 (by decide) ?_
                    refine zU_iload_n d_R_takesOut_88 rfl ?_
                    refine zU_imul d_R_takesOut_89 ?_
                    refine zU_iload_n d_R_takesOut_90 rfl ?_
                    refine zU_iadd d_R_takesOut_91 ?_
                    refine zU_istore d_R_takesOut_92 (by decide) ?_
                    refine zU.eqL (L' := [some (zp 51), some (zi (w : Int)), some (zi (zB bm')), some (zi (k : Int)), some (zi ((200 * (w : Int)) + (k : Int))), none, none]) rfl ?_
                    have hJ184 : zU Γ b_R_takesOut n_R 7 (some .boolean) [] (zRm 0 0 0) 0 0 (zFin Γ 0 false (zRi (fun r μ' => ∃ K', rF2 w μ μ' ∧ rBd w N K' μ' ∧ gAbove N tg U C B G K' ∧ (∀ k, k < N → K' k = true → K k = true) ∧ ((r = 0 ∧ gPost N tg U C B G K') ∨ (r = 1 ∧ ∃ j, j < N ∧ K' j = false ∧ K j = true))))) false 0 μ2 184 [some (zp 51), some (zi (w : Int)), some (zi (zB bm')), some (zi (k : Int)), some (zi ((200 * w + k : Nat) : Int)), some (zi (zB (nX tg K X' k 12))), none] [] := by
                      refine zU_iload_n d_R_takesOut_184 rfl ?_
                      have hJ205 : zU Γ b_R_takesOut n_R 7 (some .boolean) [] (zRm 0 0 0) 0 0 (zFin Γ 0 false (zRi (fun r μ' => ∃ K', rF2 w μ μ' ∧ rBd w N K' μ' ∧ gAbove N tg U C B G K' ∧ (∀ k, k < N → K' k = true → K k = true) ∧ ((r = 0 ∧ gPost N tg U C B G K') ∨ (r = 1 ∧ ∃ j, j < N ∧ K' j = false ∧ K j = true))))) false 0 μ2 205 [some (zp 51), some (zi (w : Int)), some (zi (zB bm')), some (zi (k : Int)), some (zi ((200 * w + k : Nat) : Int)), some (zi (zB (nX tg K X' k 12))), none] [zi (zB (bm' || (nX tg K X' k 12 != X' k)))] := by
                        refine zU_istore_n d_R_takesOut_205 (by decide) ?_
                        refine zU.eqL (L' := [some (zp 51), some (zi (w : Int)), some (zi (zB (bm' || (nX tg K X' k 12 != X' k)))), some (zi (k : Int)), some (zi ((200 * w + k : Nat) : Int)), some (zi (zB (nX tg K X' k 12))), none]) rfl ?_
                        refine zU_aload_n d_R_takesOut_206 rfl ?_
                        refine zU_getR 66 d_R_takesOut_207 f_R_53 (by decide) rfl rfl rfl ?_
                        refine zU_iload d_R_takesOut_210 rfl ?_
                        refine zU_iload d_R_takesOut_212 rfl ?_
                        refine zU_zast d_R_takesOut_214 (by decide) rfl (by decide) (by omega) (zB_or _) ?_
                        refine zU.eqM (μ' := zup μ2 66 (200 * w + k) (zB (nX tg K X' k 12))) rfl ?_
                        refine zU_iinc d_R_takesOut_215 rfl ?_
                        refine zU.eqL (L' := [some (zp 51), some (zi (w : Int)), some (zi (zB (bm' || (nX tg K X' k 12 != X' k)))), some (zi (((k + 1 : Nat) : Int))), some (zi ((200 * w + k : Nat) : Int)), some (zi (zB (nX tg K X' k 12))), none]) (by first | rfl | exact congrArg (fun zz : Int => [some (zp 51), some (zi (w : Int)), some (zi (zB (bm' || (nX tg K X' k 12 != X' k)))), some (zi zz), some (zi ((200 * w + k : Nat) : Int)), some (zi (zB (nX tg K X' k 12))), none]) (show ((k : Int) + 1 : Int) = ((k + 1 : Nat) : Int) by omega)) ?_
                        refine zU_goto 75 d_R_takesOut_218 (by decide) ?_
                        refine zU.drop 4 (L' := [some (zp 51), some (zi (w : Int)), some (zi (zB (bm' || (nX tg K X' k 12 != X' k)))), some (zi (((k + 1 : Nat) : Int))), none, some (zi (zB (nX tg K X' k 12))), none]) rfl ?_
                        refine zU.drop 5 (L' := [some (zp 51), some (zi (w : Int)), some (zi (zB (bm' || (nX tg K X' k 12 != X' k)))), some (zi (((k + 1 : Nat) : Int))), none, none, none]) rfl ?_
                        exact ih75 (d - 1) (by omega) (k + 1) _ _ _ (by omega) (rF2_up hF2 (Or.inr rfl) (by omega)) (rBd_66 hB2) (rRc_up hR2 _) (rGo_step hGo2 (fun e he => ht k e hk he) hk) (rPs_step hPs hk)
                      refine zU_if_ne 200 d_R_takesOut_185 (by decide) (zBr _) (fun h185 => ?_) (fun h185 => ?_)
                      · have b185 := zB_nz.mp h185
                        refine zU_iconst d_R_takesOut_200 ?_
                        refine zU_goto 205 d_R_takesOut_201 (by decide) ?_
                        refine zU.eqS (st' := [zi (zB (bm' || (nX tg K X' k 12 != X' k)))]) (congrArg (fun zz : Int => [zi zz]) (show (1 : Int) = zB (bm' || (nX tg K X' k 12 != X' k)) from (zBt (by rw [b185]; rfl)).symm)) ?_
                        exact hJ205 
                      · have b185 := zB_zero.mp h185
                        refine zU_iload d_R_takesOut_188 rfl ?_
                        refine zU_aload_n d_R_takesOut_190 rfl ?_
                        refine zU_getR 66 d_R_takesOut_191 f_R_53 (by decide) rfl rfl rfl ?_
                        refine zU_iload d_R_takesOut_194 rfl ?_
                        refine zU_zald (v := zB (X' k)) d_R_takesOut_196 (by decide) rfl (by decide) (by omega) (hR2 k hk) ?_
                        refine zU_icmp_eq 204 d_R_takesOut_197 (by decide) (by have h1 := zB_r (nX tg K X' k 12); have h2 := zB_r (X' k); omega) (by have h1 := zB_r (nX tg K X' k 12); have h2 := zB_r (X' k); omega) (fun h197 => ?_) (fun h197 => ?_)
                        · refine zU_iconst d_R_takesOut_204 ?_
                          refine zU.eqS (st' := [zi (zB (bm' || (nX tg K X' k 12 != X' k)))]) (congrArg (fun zz : Int => [zi zz]) (show (0 : Int) = zB (bm' || (nX tg K X' k 12 != X' k)) from (zBf (by rw [b185, zB_e h197]; rfl)).symm)) ?_
                          exact hJ205 
                        · refine zU_iconst d_R_takesOut_200 ?_
                          refine zU_goto 205 d_R_takesOut_201 (by decide) ?_
                          refine zU.eqS (st' := [zi (zB (bm' || (nX tg K X' k 12 != X' k)))]) (congrArg (fun zz : Int => [zi zz]) (show (1 : Int) = zB (bm' || (nX tg K X' k 12 != X' k)) from (zBt (by rw [zB_n h197]; simp)).symm)) ?_
                          exact hJ205 
                    refine zU.eqL (L' := [some (zp 51), some (zi (w : Int)), some (zi (zB bm')), some (zi (k : Int)), some (zi ((200 * w + k : Nat) : Int)), none, none]) (congrArg (fun zz : Int => [some (zp 51), some (zi (w : Int)), some (zi (zB bm')), some (zi (k : Int)), some (zi zz), none, none]) (show ((200 * (w : Int)) + (k : Int) : Int) = ((200 * w + k : Nat) : Int) by omega)) ?_
                    refine zU_aload_n d_R_takesOut_94 rfl ?_
                    refine zU_getR 66 d_R_takesOut_95 f_R_53 (by decide) rfl rfl rfl ?_
                    refine zU_iload d_R_takesOut_98 rfl ?_
                    refine zU_zald (v := zB (X' k)) d_R_takesOut_100 (by decide) rfl (by decide) (by omega) (hR2 k hk) ?_
                    refine zU_istore d_R_takesOut_101 (by decide) ?_
                    refine zU.eqL (L' := [some (zp 51), some (zi (w : Int)), some (zi (zB bm')), some (zi (k : Int)), some (zi ((200 * w + k : Nat) : Int)), some (zi (zB (X' k))), none]) rfl ?_
                    refine zU.eqL (L' := [some (zp 51), some (zi (w : Int)), some (zi (zB bm')), some (zi (k : Int)), some (zi ((200 * w + k : Nat) : Int)), some (zi (zB (nX tg K X' k 0))), none]) (congrArg (fun zz : Int => [some (zp 51), some (zi (w : Int)), some (zi (zB bm')), some (zi (k : Int)), some (zi ((200 * w + k : Nat) : Int)), some (zi zz), none]) (show (zB (X' k) : Int) = (zB (nX tg K X' k 0)) by rw [nX_0])) ?_
                    refine zU_iconst d_R_takesOut_103 ?_
                    refine zU_istore d_R_takesOut_104 (by decide) ?_
                    refine zU.eqL (L' := [some (zp 51), some (zi (w : Int)), some (zi (zB bm')), some (zi (k : Int)), some (zi ((200 * w + k : Nat) : Int)), some (zi (zB (nX tg K X' k 0))), some (zi 0)]) rfl ?_
                    have hJ106 : ∀ (d : Nat) (e : Nat), e + d = 12 → zU Γ b_R_takesOut n_R 7 (some .boolean) [] (zRm 0 0 0) 0 0 (zFin Γ 0 false (zRi (fun r μ' => ∃ K', rF2 w μ μ' ∧ rBd w N K' μ' ∧ gAbove N tg U C B G K' ∧ (∀ k, k < N → K' k = true → K k = true) ∧ ((r = 0 ∧ gPost N tg U C B G K') ∨ (r = 1 ∧ ∃ j, j < N ∧ K' j = false ∧ K j = true))))) false 0 μ2 106 [some (zp 51), some (zi (w : Int)), some (zi (zB bm')), some (zi (k : Int)), some (zi ((200 * w + k : Nat) : Int)), some (zi (zB (nX tg K X' k e))), some (zi (e : Int))] [] := by
                      intro d
                      induction d using Nat.strongRecOn with
                      | _ d ih106 =>
                        intro e hd3
                        refine zU_iload d_R_takesOut_106 rfl ?_
                        refine zU_bipush d_R_takesOut_108 (by decide) ?_
                        refine zU_icmp_ge 184 d_R_takesOut_110 (by decide) (by omega) (by omega) (fun h110 => ?_) (fun h110 => ?_)
                        · refine zU.eqL (L' := [some (zp 51), some (zi (w : Int)), some (zi (zB bm')), some (zi (k : Int)), some (zi ((200 * w + k : Nat) : Int)), some (zi (zB (nX tg K X' k 12))), some (zi (e : Int))]) (by rw [show e = 12 by omega]) ?_
                          refine zU.drop 6 (L' := [some (zp 51), some (zi (w : Int)), some (zi (zB bm')), some (zi (k : Int)), some (zi ((200 * w + k : Nat) : Int)), some (zi (zB (nX tg K X' k 12))), none]) rfl ?_
                          exact hJ184 
                        · have he : e < 12 := by omega
                          have hte := ht k e hk he
                          refine zU_aload_n d_R_takesOut_113 rfl ?_
                          refine zU_getR 65 d_R_takesOut_114 f_R_50 (by decide) rfl rfl rfl ?_
                          refine zU_iload d_R_takesOut_117 rfl ?_
                          refine zU_zald (v := zB (!K k)) d_R_takesOut_119 (by decide) rfl (by decide) (by omega) (hB2 k hk) ?_
                          refine zU_if_ne 184 d_R_takesOut_120 (by decide) (zBr _) (fun h120 => ?_) (fun h120 => ?_)
                          · have b120 := zB_nz.mp h120
                            refine zU.eqL (L' := [some (zp 51), some (zi (w : Int)), some (zi (zB bm')), some (zi (k : Int)), some (zi ((200 * w + k : Nat) : Int)), some (zi (zB (nX tg K X' k 12))), some (zi (e : Int))]) (by rw [nX_n (n := e) (by simpa using b120), nX_n (n := 12) (by simpa using b120)]) ?_
                            refine zU.drop 6 (L' := [some (zp 51), some (zi (w : Int)), some (zi (zB bm')), some (zi (k : Int)), some (zi ((200 * w + k : Nat) : Int)), some (zi (zB (nX tg K X' k 12))), none]) rfl ?_
                            exact hJ184 
                          · have b120 := zB_zero.mp h120
                            refine zU_iload d_R_takesOut_123 rfl ?_
                            have hJ176 : zU Γ b_R_takesOut n_R 7 (some .boolean) [] (zRm 0 0 0) 0 0 (zFin Γ 0 false (zRi (fun r μ' => ∃ K', rF2 w μ μ' ∧ rBd w N K' μ' ∧ gAbove N tg U C B G K' ∧ (∀ k, k < N → K' k = true → K k = true) ∧ ((r = 0 ∧ gPost N tg U C B G K') ∨ (r = 1 ∧ ∃ j, j < N ∧ K' j = false ∧ K j = true))))) false 0 μ2 176 [some (zp 51), some (zi (w : Int)), some (zi (zB bm')), some (zi (k : Int)), some (zi ((200 * w + k : Nat) : Int)), some (zi (zB (nX tg K X' k e))), some (zi (e : Int))] [zi (zB (nX tg K X' k (e + 1)))] := by
                              refine zU_istore d_R_takesOut_176 (by decide) ?_
                              refine zU.eqL (L' := [some (zp 51), some (zi (w : Int)), some (zi (zB bm')), some (zi (k : Int)), some (zi ((200 * w + k : Nat) : Int)), some (zi (zB (nX tg K X' k (e + 1)))), some (zi (e : Int))]) rfl ?_
                              refine zU_iinc d_R_takesOut_178 rfl ?_
                              refine zU.eqL (L' := [some (zp 51), some (zi (w : Int)), some (zi (zB bm')), some (zi (k : Int)), some (zi ((200 * w + k : Nat) : Int)), some (zi (zB (nX tg K X' k (e + 1)))), some (zi (((e + 1 : Nat) : Int)))]) (by first | rfl | exact congrArg (fun zz : Int => [some (zp 51), some (zi (w : Int)), some (zi (zB bm')), some (zi (k : Int)), some (zi ((200 * w + k : Nat) : Int)), some (zi (zB (nX tg K X' k (e + 1)))), some (zi zz)]) (show ((e : Int) + 1 : Int) = ((e + 1 : Nat) : Int) by omega)) ?_
                              refine zU_goto 106 d_R_takesOut_181 (by decide) ?_
                              exact ih106 (d - 1) (by omega) (e + 1) (by omega)
                            refine zU_if_ne 171 d_R_takesOut_125 (by decide) (zBr _) (fun h125 => ?_) (fun h125 => ?_)
                            · have b125 := zB_nz.mp h125
                              refine zU_iconst d_R_takesOut_171 ?_
                              refine zU_goto 176 d_R_takesOut_172 (by decide) ?_
                              refine zU.eqS (st' := [zi (zB (nX tg K X' k (e + 1)))]) (congrArg (fun zz : Int => [zi zz]) (show (1 : Int) = zB (nX tg K X' k (e + 1)) from (zBt (by rw [nX_s, b125]; rfl)).symm)) ?_
                              exact hJ176 
                            · have b125 := zB_zero.mp h125
                              refine zU_aload_n d_R_takesOut_128 rfl ?_
                              refine zU_getR 62 d_R_takesOut_129 f_R_41 (by decide) rfl rfl rfl ?_
                              refine zU_bipush d_R_takesOut_132 (by decide) ?_
                              refine zU_iload d_R_takesOut_134 rfl ?_
                              refine zU_imul d_R_takesOut_136 ?_
                              refine zU_iload d_R_takesOut_137 rfl ?_
                              refine zU_iadd d_R_takesOut_139 ?_
                              refine zU_iald (v := (tg k e : Int) - 1) d_R_takesOut_140 (by decide) rfl (by decide) (by omega) (by rw [show ((12 * ((200 * w + k : Nat) : Int)) + (e : Int)).toNat = 12 * (200 * w + k) + e by omega]; exact ((hT2.2.2 k hk).2 e he).1.1) ?_
                              refine zU_if_lt 175 d_R_takesOut_141 (by decide) (by omega) (fun h141 => ?_) (fun h141 => ?_)
                              · refine zU_iconst d_R_takesOut_175 ?_
                                refine zU.eqS (st' := [zi (zB (nX tg K X' k (e + 1)))]) (congrArg (fun zz : Int => [zi zz]) (show (0 : Int) = zB (nX tg K X' k (e + 1)) from (zBf (by rw [nX_s, b125, show tg k e = 0 by omega]; simp)).symm)) ?_
                                exact hJ176 
                              · refine zU_aload_n d_R_takesOut_144 rfl ?_
                                refine zU_getR 66 d_R_takesOut_145 f_R_53 (by decide) rfl rfl rfl ?_
                                refine zU_sipush d_R_takesOut_148 (by decide) ?_
                                refine zU_iload_n d_R_takesOut_151 rfl ?_
                                refine zU_imul d_R_takesOut_152 ?_
                                refine zU_aload_n d_R_takesOut_153 rfl ?_
                                refine zU_getR 62 d_R_takesOut_154 f_R_41 (by decide) rfl rfl rfl ?_
                                refine zU_bipush d_R_takesOut_157 (by decide) ?_
                                refine zU_iload d_R_takesOut_159 rfl ?_
                                refine zU_imul d_R_takesOut_161 ?_
                                refine zU_iload d_R_takesOut_162 rfl ?_
                                refine zU_iadd d_R_takesOut_164 ?_
                                refine zU_iald (v := (tg k e : Int) - 1) d_R_takesOut_165 (by decide) rfl (by decide) (by omega) (by rw [show ((12 * ((200 * w + k : Nat) : Int)) + (e : Int)).toNat = 12 * (200 * w + k) + e by omega]; exact ((hT2.2.2 k hk).2 e he).1.1) ?_
                                refine zU_iadd d_R_takesOut_166 ?_
                                refine zU_zald (v := zB (X' (tg k e - 1))) d_R_takesOut_167 (by decide) rfl (by decide) (by omega) (by rw [show ((200 * (w : Int)) + ((tg k e : Int) - 1)).toNat = 200 * w + (tg k e - 1) by omega]; exact hR2 _ (by omega)) ?_
                                refine zU_if_eq 175 d_R_takesOut_168 (by decide) (zBr _) (fun h168 => ?_) (fun h168 => ?_)
                                · have b168 := zB_zero.mp h168
                                  refine zU_iconst d_R_takesOut_175 ?_
                                  refine zU.eqS (st' := [zi (zB (nX tg K X' k (e + 1)))]) (congrArg (fun zz : Int => [zi zz]) (show (0 : Int) = zB (nX tg K X' k (e + 1)) from (zBf (by rw [nX_s, b125, b168]; simp)).symm)) ?_
                                  exact hJ176 
                                · have b168 := zB_nz.mp h168
                                  refine zU_iconst d_R_takesOut_171 ?_
                                  refine zU_goto 176 d_R_takesOut_172 (by decide) ?_
                                  refine zU.eqS (st' := [zi (zB (nX tg K X' k (e + 1)))]) (congrArg (fun zz : Int => [zi zz]) (show (1 : Int) = zB (nX tg K X' k (e + 1)) from (zBt (by rw [nX_s, b168, show K k = true by simpa using b120, show decide (tg k e ≠ 0) = true by simp; omega]; simp)).symm)) ?_
                                  exact hJ176 
                    exact hJ106 12 0 (by omega)
              exact hJ75 N 0 X false μ1 (by omega) hF hB1 hR1 hGo (rPs_0 _ _ _ _)
        refine zU.drop 3 (L' := [some (zp 51), some (zi (w : Int)), some (zi 1), none, none, none, none]) rfl ?_
        exact hJ67 _ (fun j => K j && G j) true _ (Nat.le_refl _) hF hB1 (by rw [show N = k by omega]; exact hR1) (rGo_0 _ _ _ _) (fun h => by cases h)
      · have hk : k < N := by omega
        refine zU_aload_n d_R_takesOut_14 rfl ?_
        refine zU_getR 66 d_R_takesOut_15 f_R_53 (by decide) rfl rfl rfl ?_
        refine zU_sipush d_R_takesOut_18 (by decide) ?_
        refine zU_iload_n d_R_takesOut_21 rfl ?_
        refine zU_imul d_R_takesOut_22 ?_
        refine zU_iload_n d_R_takesOut_23 rfl ?_
        refine zU_iadd d_R_takesOut_24 ?_
        refine zU_aload_n d_R_takesOut_25 rfl ?_
        refine zU_getR 65 d_R_takesOut_26 f_R_50 (by decide) rfl rfl rfl ?_
        refine zU_sipush d_R_takesOut_29 (by decide) ?_
        refine zU_iload_n d_R_takesOut_32 rfl ?_
        refine zU_imul d_R_takesOut_33 ?_
        refine zU_iload_n d_R_takesOut_34 rfl ?_
        refine zU_iadd d_R_takesOut_35 ?_
        refine zU_zald (v := zB (!K k)) d_R_takesOut_36 (by decide) rfl (by decide) (by omega) (by rw [show ((200 * (w : Int)) + (k : Int)).toNat = 200 * w + k by omega]; exact hB1 k hk) ?_
        have hJ60 : zU Γ b_R_takesOut n_R 7 (some .boolean) [] (zRm 0 0 0) 0 0 (zFin Γ 0 false (zRi (fun r μ' => ∃ K', rF2 w μ μ' ∧ rBd w N K' μ' ∧ gAbove N tg U C B G K' ∧ (∀ k, k < N → K' k = true → K k = true) ∧ ((r = 0 ∧ gPost N tg U C B G K') ∨ (r = 1 ∧ ∃ j, j < N ∧ K' j = false ∧ K j = true))))) false 0 μ1 60 [some (zp 51), some (zi (w : Int)), some (zi 1), some (zi (k : Int)), none, none, none] [zi (zB (K k && G k)), zi ((200 * (w : Int)) + (k : Int)), zp 66] := by
          refine zU_zast d_R_takesOut_60 (by decide) rfl (by decide) (by omega) (zB_or _) ?_
          refine zU.eqM (μ' := zup μ1 66 (200 * w + k) (zB (K k && G k))) (by rw [show ((200 * (w : Int)) + (k : Int)).toNat = 200 * w + k by omega]) ?_
          have hR3 : rRc w (k + 1) (fun j => K j && G j) (zup μ1 66 (200 * w + k) (zB (K k && G k))) := fun j hj => by by_cases hjk : j = k; { subst hjk; rw [zup_at, if_pos ⟨rfl, rfl⟩] }; { rw [zup_at, if_neg (by omega)]; exact hR1 j (by omega) }
          refine zU_iinc d_R_takesOut_61 rfl ?_
          refine zU.eqL (L' := [some (zp 51), some (zi (w : Int)), some (zi 1), some (zi (((k + 1 : Nat) : Int))), none, none, none]) (by first | rfl | exact congrArg (fun zz : Int => [some (zp 51), some (zi (w : Int)), some (zi 1), some (zi zz), none, none, none]) (show ((k : Int) + 1 : Int) = ((k + 1 : Nat) : Int) by omega)) ?_
          refine zU_goto 4 d_R_takesOut_64 (by decide) ?_
          exact ih4 (d - 1) (by omega) (k + 1) _ (by omega) (rF2_up hF (Or.inr rfl) (by omega)) (rBd_66 hB1) hR3
        refine zU_if_ne 59 d_R_takesOut_37 (by decide) (zBr _) (fun h37 => ?_) (fun h37 => ?_)
        · have b37 := zB_nz.mp h37
          refine zU_iconst d_R_takesOut_59 ?_
          refine zU.eqS (st' := [zi (zB (K k && G k)), zi ((200 * (w : Int)) + (k : Int)), zp 66]) (congrArg (fun zz : Int => [zi zz, zi ((200 * (w : Int)) + (k : Int)), zp 66]) (show (0 : Int) = zB (K k && G k) from (zBf (by simp at b37; simp [b37])).symm)) ?_
          exact hJ60 
        · have b37 := zB_zero.mp h37
          refine zU_aload_n d_R_takesOut_40 rfl ?_
          refine zU_getR 64 d_R_takesOut_41 f_R_47 (by decide) rfl rfl rfl ?_
          refine zU_sipush d_R_takesOut_44 (by decide) ?_
          refine zU_iload_n d_R_takesOut_47 rfl ?_
          refine zU_imul d_R_takesOut_48 ?_
          refine zU_iload_n d_R_takesOut_49 rfl ?_
          refine zU_iadd d_R_takesOut_50 ?_
          refine zU_zald (v := zB (G k)) d_R_takesOut_51 (by decide) rfl (by decide) (by omega) (by rw [show ((200 * (w : Int)) + (k : Int)).toNat = 200 * w + k by omega]; exact (hT1.2.2 k hk).1) ?_
          refine zU_if_eq 59 d_R_takesOut_52 (by decide) (zBr _) (fun h52 => ?_) (fun h52 => ?_)
          · have b52 := zB_zero.mp h52
            refine zU_iconst d_R_takesOut_59 ?_
            refine zU.eqS (st' := [zi (zB (K k && G k)), zi ((200 * (w : Int)) + (k : Int)), zp 66]) (congrArg (fun zz : Int => [zi zz, zi ((200 * (w : Int)) + (k : Int)), zp 66]) (show (0 : Int) = zB (K k && G k) from (zBf (by simp [b52])).symm)) ?_
            exact hJ60 
          · have b52 := zB_nz.mp h52
            refine zU_iconst d_R_takesOut_55 ?_
            refine zU_goto 60 d_R_takesOut_56 (by decide) ?_
            refine zU.eqS (st' := [zi (zB (K k && G k)), zi ((200 * (w : Int)) + (k : Int)), zp 66]) (congrArg (fun zz : Int => [zi zz, zi ((200 * (w : Int)) + (k : Int)), zp 66]) (show (1 : Int) = zB (K k && G k) from (zBt (by simp at b37; simp [b37, b52])).symm)) ?_
            exact hJ60 
  refine zU.loose ?_
  exact hJ4 N 0 μ (by omega) (rF2_rf _ _) hB (fun j hj => absurd hj (by omega))
