theorem oAt_0 {tg : Nat → Nat → Nat} {K : Nat → Bool} {t : Nat} (h : 0 < (oAt tg K t).length) : (oAt tg K t)[0]? = some 0 := by
  have hK := oAt_K h
  unfold oAt
  rw [if_pos hK]
  exact gAt_get (Nat.zero_le _) (by simp [gAt])
def pG (a : aT) (x y N1 N2 : Nat) (L : List Nat) (k : Nat) : Bool := pGoal a x y N1 N2 (L.getD k 0)
def sNot (a : aT) (x : Nat) : Prop := aReady a (aMem a (some x)) = false ∨ (aReady a (aMem a (some x)) = true ∧ gMany (nxtA a (aMem a (some x))) (cod (aFirst a (aMem a (some x))))) ∨ ∃ N K, aReady a (aMem a (some x)) = true ∧ sMath a (aMem a (some x)) N K 0
def rConf (a : aT) (x y : Nat) (r : Int) : Prop := (r = -1 ∧ sNot a x) ∨ (r = -1 ∧ sNot a y ∧ ∃ N K M, aReady a (aMem a (some x)) = true ∧ sMath a (aMem a (some x)) N K M ∧ 0 < M) ∨ ∃ N1 K1 M1 N2 K2 M2, pH a x y N1 K1 M1 N2 K2 M2 ∧ aReady a (aMem a (some x)) = true ∧ aReady a (aMem a (some y)) = true ∧ ((r = -1 ∧ gMany (pq a x y N1 K1 N2 K2) 0) ∨ ∃ n, gFin (pq a x y N1 K1 N2 K2) 0 n ∧ n ≤ 200 ∧ ((r = 1 ∧ ∃ k, k < n ∧ ∀ d, rch (gtg (gAt (pq a x y N1 K1 N2 K2) 0 (12 * n))) (fun _ => true) (pG a x y N1 N2 (gAt (pq a x y N1 K1 N2 K2) 0 (12 * n)).1) d k = false) ∨ (r = 0 ∧ ∀ k, k < n → ∃ d, rch (gtg (gAt (pq a x y N1 K1 N2 K2) 0 (12 * n))) (fun _ => true) (pG a x y N1 N2 (gAt (pq a x y N1 K1 N2 K2) 0 (12 * n)).1) d k = true)))
theorem cWor_keep {a : aT} {v : vT} {μ μ' : zM} (h : cWor a v μ) (hq : ∀ q, (q < 15 ∨ (33 ≤ q ∧ q ≤ 38)) → μ' q = μ q) (hL : ∃ L, gBase L μ') : cWor a v μ' := by
  obtain ⟨ha, hc, -, h33, hv⟩ := h
  refine ⟨ha, cRep_far hc ha (fun q _ _ => hq q (by omega)), hL, by rw [hq 33 (by omega)]; exact h33, ?_⟩
  rcases hv with ⟨h1, h2⟩ | ⟨N, K, M, x, h0, h1, h2, h3, h4⟩
  · exact Or.inl ⟨h1, by rw [hq 0 (by omega)]; exact h2⟩
  · exact Or.inr ⟨N, K, M, x, h0, by rw [hq 0 (by omega)]; exact h1, h2, sSup_congr h3 (fun q _ _ => hq q (by omega)), by rw [hq 0 (by omega)]; exact h4⟩
theorem pMk_at {f : Nat → Bool} {L : List Nat} {n : Nat} {μ : zM} (h : pMk f L n μ) (hl : L.length = n) {k : Nat} (hk : k < n) : μ 18 (k + 1) = zB (f (L.getD k 0)) ∧ μ 19 (k + 1) = 1 := by
  have hk' : k < L.length := by omega
  have h1 := h k _ hk (List.getElem?_eq_getElem hk')
  have h2 : L.getD k 0 = L[k] := by simp [hk']
  rw [h2]
  exact h1
set_option maxRecDepth 100000 in
set_option maxHeartbeats 4000000 in
theorem m_P_explore (l : Launch) (μ : zM) {a : aT} {x y N1 M1 N2 M2 : Nat} {K1 K2 : Nat → Bool} (hH : pH a x y N1 K1 M1 N2 K2 M2) (hS1 : sSup a (aMem a (some x)) N1 K1 M1 1 μ) (hS2 : sSup a (aMem a (some y)) N2 K2 M2 2 μ) {L : List Nat} (hB : gBase L μ) :
    zC l y_P_explore b_P_explore 4 (some .boolean) [] 3 0 75 false [zp 30, zp 39, zp 45] μ (zRi (fun r μ' => ((r = 1 ∧ ∃ n, gFin (pq a x y N1 K1 N2 K2) 0 n ∧ n ≤ 200 ∧ gRep (pMap (pcd a x y N1 N2) (gAt (pq a x y N1 K1 N2 K2) 0 (12 * n))) μ' ∧ pMk (pGoal a x y N1 N2) (gAt (pq a x y N1 K1 N2 K2) 0 (12 * n)).1 n μ') ∨ (r = 0 ∧ gMany (pq a x y N1 K1 N2 K2) 0 ∧ ∃ L', gBase L' μ')) ∧ ∀ q, (q < 15 ∨ 25 ≤ q) → q ≠ 31 → q ≠ 32 → μ' q = μ q)) := by
  refine zC.of (own := n_P) (L := [some (zp 30), some (zp 39), some (zp 45), none]) (by decide) rfl (by simp [zcat]) (Nat.le_of_ble_eq_true rfl) rfl (fun Γ => ?_)
  obtain ⟨ha, hx, hy, hM1, hM2, hp1, hp2⟩ := id hH
  have hl1 : (oAt (gtg (rg a x N1)) K1 (12 * M1)).length = M1 := hM1.2.2.2.2.1.1
  have hl2 : (oAt (gtg (rg a y N2)) K2 (12 * M2)).length = M2 := hM2.2.2.2.2.1.1
  have hN1 := hM1.2.1.2
  have hN2 := hM2.2.1.2
  have hMN1 := hM1.2.2.2.2.2.1
  have hMN2 := hM2.2.2.2.2.2.1
  have h01 : (oAt (gtg (rg a x N1)) K1 (12 * M1))[0]? = some 0 := oAt_0 (by omega)
  have h02 : (oAt (gtg (rg a y N2)) K2 (12 * M2))[0]? = some 0 := oAt_0 (by omega)
  obtain ⟨ca, hca1, hca2⟩ := (hS1.2.2.2.2 0 _ hp1 h01).1
  obtain ⟨cb, hcb1, hcb2⟩ := (hS2.2.2.2.2 0 _ hp2 h02).1
  have hcal := (hM1.2.2.2.2.2.2.2 ca (List.mem_of_getElem? hca1)).1
  have hcbl := (hM2.2.2.2.2.2.2.2 cb (List.mem_of_getElem? hcb1)).1
  have hfq : ca ||| cb = pcd a x y N1 N2 0 := by show _ = pFn _ _ _; unfold pFn; rw [show 0 / 256 = 0 from rfl, show 0 % 256 = 0 from rfl, getD_of hca1, getD_of hcb1]
  have hfl : pcd a x y N1 N2 0 < 4096 := by rw [← hfq]; exact Nat.or_lt_two_pow (n := 12) hcal hcbl
  refine zU_aload_n d_P_explore_0 rfl ?_
  refine zU_getR 15 d_P_explore_1 f_P_18 (by decide) rfl rfl rfl ?_
  refine zU_aload_n d_P_explore_4 rfl ?_
  refine zU_iconst d_P_explore_5 ?_
  refine zU_aload_n d_P_explore_6 rfl ?_
  refine zU_iconst d_P_explore_7 ?_
  refine zU_callSi [zp 39, zi 1, zp 45, zi 1] d_P_explore_8 k_P_22 rfl (by decide) (Nat.le_of_ble_eq_true rfl) (fun l => m_P_pairCode l μ (j := 1) (i := 2) (s := 0) (t := 0) (c := ca) (d := cb) (by decide) (by decide) (by omega) (by omega) hca2 hcb2 hcal hcbl) (fun r8 μ8 h8 => ?_)
  obtain ⟨hμ8, hr8⟩ := h8
  replace hμ8 := hμ8.symm
  subst hμ8
  rw [hfq] at hr8
  subst hr8
  refine zU_callVv (p0 := 15) [zi (((pcd a x y N1 N2 0 : Nat) : Int))] d_P_explore_11 k_P_26 rfl (by decide) rfl rfl (by decide) (Nat.le_of_ble_eq_true rfl) (fun l => m_G_begin l μ (c := pcd a x y N1 N2 0) hB hfl) (fun μ11 h11 => ?_)
  obtain ⟨hG11, hq11⟩ := h11
  refine zU_aload_n d_P_explore_14 rfl ?_
  refine zU_getR 31 d_P_explore_15 f_P_9 (by decide) rfl rfl rfl ?_
  refine zU_iconst d_P_explore_18 ?_
  refine zU_iconst d_P_explore_19 ?_
  refine zU_iast d_P_explore_20 (by decide) rfl (by decide) (by omega) ?_
  refine zU.eqM (μ' := (zup μ11 31 1 1)) rfl ?_
  refine zU_aload_n d_P_explore_21 rfl ?_
  refine zU_getR 32 d_P_explore_22 f_P_15 (by decide) rfl rfl rfl ?_
  refine zU_iconst d_P_explore_25 ?_
  refine zU_iconst d_P_explore_26 ?_
  refine zU_iast d_P_explore_27 (by decide) rfl (by decide) (by omega) ?_
  refine zU.eqM (μ' := (zup (zup μ11 31 1 1) 32 1 1)) rfl ?_
  have hG27 : gRep (pMap (pcd a x y N1 N2) (gAt (pq a x y N1 K1 N2 K2) 0 (12 * 0))) (zup (zup μ11 31 1 1) 32 1 1) := gRep_congr hG11 (fun q h => by rw [zup_ne _ _ _ (by omega), zup_ne _ _ _ (by omega)])
  have hR27 : pRow (oAt (gtg (rg a x N1)) K1 (12 * M1)) (oAt (gtg (rg a y N2)) K2 (12 * M2)) (gAt (pq a x y N1 K1 N2 K2) 0 (12 * 0)).1 (zup (zup μ11 31 1 1) 32 1 1) := by
    intro i p hp
    have hi : i = 0 := by have h9 := (List.getElem?_eq_some_iff.mp hp).1; simp [gAt] at h9; exact h9
    subst hi
    have hp0 : p = 0 := by simpa [gAt] using hp.symm
    subst hp0
    exact ⟨⟨0, h01, by rw [zup_ne _ _ _ (by decide), zup_at]; simp⟩, ⟨0, h02, by rw [zup_at]; simp⟩⟩
  refine zU_iconst d_P_explore_28 ?_
  refine zU_istore_n d_P_explore_29 (by decide) ?_
  refine zU.eqL (L' := [some (zp 30), some (zp 39), some (zp 45), some (zi 1)]) rfl ?_
  have hJ30 : ∀ (d : Nat) (k : Nat) (μ1 : zM), k + d = 201 → gRep (pMap (pcd a x y N1 N2) (gAt (pq a x y N1 K1 N2 K2) 0 (12 * k))) μ1 → pRow (oAt (gtg (rg a x N1)) K1 (12 * M1)) (oAt (gtg (rg a y N2)) K2 (12 * M2)) (gAt (pq a x y N1 K1 N2 K2) 0 (12 * k)).1 μ1 → pMk (pGoal a x y N1 N2) (gAt (pq a x y N1 K1 N2 K2) 0 (12 * k)).1 k μ1 → k ≤ (gAt (pq a x y N1 K1 N2 K2) 0 (12 * k)).1.length → (∀ j, j < k → j < (gAt (pq a x y N1 K1 N2 K2) 0 (12 * j)).1.length) → (∀ q, (q < 15 ∨ 25 ≤ q) → q ≠ 31 → q ≠ 32 → μ1 q = μ q) → zU Γ b_P_explore n_P 4 (some .boolean) [] (zRm 3 0 75) 0 0 (zFin Γ 0 false (zRi (fun r μ' => ((r = 1 ∧ ∃ n, gFin (pq a x y N1 K1 N2 K2) 0 n ∧ n ≤ 200 ∧ gRep (pMap (pcd a x y N1 N2) (gAt (pq a x y N1 K1 N2 K2) 0 (12 * n))) μ' ∧ pMk (pGoal a x y N1 N2) (gAt (pq a x y N1 K1 N2 K2) 0 (12 * n)).1 n μ') ∨ (r = 0 ∧ gMany (pq a x y N1 K1 N2 K2) 0 ∧ ∃ L', gBase L' μ')) ∧ ∀ q, (q < 15 ∨ 25 ≤ q) → q ≠ 31 → q ≠ 32 → μ' q = μ q))) false 0 μ1 30 [some (zp 30), some (zp 39), some (zp 45), some (zi ((k + 1 : Nat) : Int))] [] := by
    intro d
    induction d using Nat.strongRecOn with
    | _ d ih30 =>
      intro k μ1 hd hG hR hMk hkl hks hq
      have hl : (gAt (pq a x y N1 K1 N2 K2) 0 (12 * k)).1.length ≤ 200 := by have := hG.1.2.1; simpa [pMap] using this
      refine zU_iload_n d_P_explore_30 rfl ?_
      refine zU_aload_n d_P_explore_31 rfl ?_
      refine zU_getR 15 d_P_explore_32 f_P_18 (by decide) rfl rfl rfl ?_
      refine zU_getI (v := ((gAt (pq a x y N1 K1 N2 K2) 0 (12 * k)).1.length : Int)) d_P_explore_35 f_P_32 (by decide) rfl rfl (by have := hG.1.1; simpa [pMap] using this) ?_
      refine zU_icmp_gt 66 d_P_explore_38 (by decide) (by omega) (by omega) (fun h38 => ?_) (fun h38 => ?_)
      · refine zU_iconst d_P_explore_66 ?_
        exact zU_ireturn d_P_explore_67 (Or.inr ⟨rfl, by omega⟩) (by decide) (by decide) (⟨_, rfl, Or.inl ⟨rfl, k, ⟨by omega, hks⟩, by omega, hG, hMk⟩, hq⟩)
      · refine zU_iload_n d_P_explore_41 rfl ?_
        refine zU_sipush d_P_explore_42 (by decide) ?_
        refine zU_icmp_gt 66 d_P_explore_45 (by decide) (by omega) (by omega) (fun h45 => ?_) (fun h45 => ?_)
        · exfalso; omega
        · refine zU_aload_n d_P_explore_48 rfl ?_
          refine zU_iload_n d_P_explore_49 rfl ?_
          refine zU_aload_n d_P_explore_50 rfl ?_
          refine zU_aload_n d_P_explore_51 rfl ?_
          refine zU_callVi (p0 := 30) [zi ((k + 1 : Nat) : Int), zp 39, zp 45] d_P_explore_52 k_P_36 rfl (by decide) rfl rfl (by decide) (Nat.le_of_ble_eq_true rfl) (fun l => m_P_exploreFrom l μ1 hH (sSup_congr hS1 (fun q _ _ => hq q (by omega) (by omega) (by omega))) (sSup_congr hS2 (fun q _ _ => hq q (by omega) (by omega) (by omega))) (k := k) hG hR hMk (by omega)) (fun r52 μ52 h52 => ?_)
          obtain ⟨h52, hq52⟩ := h52
          have hr52 : r52 = 0 ∨ r52 = 1 := by rcases h52 with h | h; { exact Or.inr h.1 }; { exact Or.inl h.1 }
          refine zU_if_ne 60 d_P_explore_55 (by decide) (by omega) (fun h55 => ?_) (fun h55 => ?_)
          · have hx52 : gRep (pMap (pcd a x y N1 N2) (gAt (pq a x y N1 K1 N2 K2) 0 (12 * (k + 1)))) μ52 ∧ pRow (oAt (gtg (rg a x N1)) K1 (12 * M1)) (oAt (gtg (rg a y N2)) K2 (12 * M2)) (gAt (pq a x y N1 K1 N2 K2) 0 (12 * (k + 1))).1 μ52 ∧ pMk (pGoal a x y N1 N2) (gAt (pq a x y N1 K1 N2 K2) 0 (12 * (k + 1))).1 (k + 1) μ52 := by rcases h52 with h | h; { exact h.2 }; { exact absurd h.1 h55 }
            refine zU_iinc d_P_explore_60 rfl ?_
            refine zU.eqL (L' := [some (zp 30), some (zp 39), some (zp 45), some (zi (((k + 1 + 1 : Nat) : Int)))]) (by first | rfl | exact congrArg (fun zz : Int => [some (zp 30), some (zp 39), some (zp 45), some (zi zz)]) (show (((k + 1 : Nat) : Int) + 1 : Int) = ((k + 1 + 1 : Nat) : Int) by omega)) ?_
            refine zU_goto 30 d_P_explore_63 (by decide) ?_
            exact ih30 (d - 1) (by omega) (k + 1) _ (by omega) hx52.1 hx52.2.1 hx52.2.2 (by have : (gAt (pq a x y N1 K1 N2 K2) 0 (12 * k)).1.length ≤ (gAt (pq a x y N1 K1 N2 K2) 0 (12 * (k + 1))).1.length := gAt_len (by omega); omega) (fun j hj => by by_cases h : j = k; { rw [h]; omega }; { exact hks j (by omega) }) (fun q h h1 h2 => by rw [hq52 q h h1 h2]; exact hq q h h1 h2)
          · refine zU_iconst d_P_explore_58 ?_
            exact zU_ireturn d_P_explore_59 (Or.inr ⟨rfl, by omega⟩) (by decide) (by decide) (⟨_, rfl, Or.inr ⟨rfl, by rcases h52 with h | h; { exact absurd h.1 (by omega) }; { exact h.2 }⟩, fun q h h1 h2 => by rw [hq52 q h h1 h2]; exact hq q h h1 h2⟩)
  exact hJ30 201 0 _ (by omega) hG27 hR27 (fun j c hj => absurd hj (by omega)) (by omega) (fun j hj => absurd hj (by omega)) (fun q h h1 h2 => by rw [zup_ne _ _ _ h2, zup_ne _ _ _ h1]; exact hq11 q (by omega) (by omega) (by omega) (by omega) (by omega) (by omega))
set_option maxRecDepth 100000 in
set_option maxHeartbeats 4000000 in
theorem m_P_haveDeadEnd (l : Launch) (μ : zM) {a : aT} {x y N1 N2 n : Nat} {g : gT} (hG : gRep (pMap (pcd a x y N1 N2) g) μ) (hMk : pMk (pGoal a x y N1 N2) g.1 n μ) (hl : g.1.length = n) (hn : n ≤ 200) (hES : g.2.1.length ≤ 2400) :
    zC l y_P_haveDeadEnd b_P_haveDeadEnd 1 (some .boolean) [] 2 0 49 false [zp 30] μ (zRi (fun r μ' => ((r = 1 ∧ ∃ k, k < n ∧ ∀ d, rch (gtg g) (fun _ => true) (pG a x y N1 N2 g.1) d k = false) ∨ (r = 0 ∧ ∀ k, k < n → ∃ d, rch (gtg g) (fun _ => true) (pG a x y N1 N2 g.1) d k = true)) ∧ ∀ q, q ≠ 19 → q ≠ 20 → q ≠ 25 → μ' q = μ q)) := by
  refine zC.of (own := n_P) (L := [some (zp 30)]) (by decide) rfl (by simp [zcat]) (Nat.le_of_ble_eq_true rfl) rfl (fun Γ => ?_)
  have hlm : (pMap (pcd a x y N1 N2) g).1.length = n := by simp [pMap, hl]
  refine zU_aload_n d_P_haveDeadEnd_0 rfl ?_
  refine zU_getR 15 d_P_haveDeadEnd_1 f_P_18 (by decide) rfl rfl rfl ?_
  refine zU_callVv (p0 := 15) [] d_P_haveDeadEnd_4 k_P_64 rfl (by decide) rfl rfl (by decide) (Nat.le_of_ble_eq_true rfl) (fun l => m_G_measure l μ (g := pMap (pcd a x y N1 N2) g) (K := fun _ => true) (G := pG a x y N1 N2 g.1) hG (fun k hk => (pMk_at hMk hl (by omega)).2) (fun k hk => (pMk_at hMk hl (by omega)).1) (by omega) hES) (fun μ4 h4 => ?_)
  obtain ⟨hD4, hq4⟩ := h4
  refine zU_aload_n d_P_haveDeadEnd_7 rfl ?_
  refine zU_getR 15 d_P_haveDeadEnd_8 f_P_18 (by decide) rfl rfl rfl ?_
  refine zU_callVi (p0 := 15) [] d_P_haveDeadEnd_11 k_P_67 rfl (by decide) rfl rfl (by decide) (Nat.le_of_ble_eq_true rfl) (fun l => m_G_dropDeadEnds l μ4 (g := pMap (pcd a x y N1 N2) g) (K := fun _ => true) (gRep_congr hG (fun q h => hq4 q (by omega) (by omega))) (by rw [hq4 19 (by decide) (by decide)]; exact fun k hk => (pMk_at hMk hl (by omega)).2) (by omega) (fun k hk => by have := mDist_r (hD4 k hk); omega)) (fun r11 μ11 h11 => ?_)
  obtain ⟨hr11, -, hq11⟩ := h11
  exact zU_ireturn d_P_haveDeadEnd_14 (Or.inr ⟨rfl, by rw [hr11]; exact zB_or _⟩) (by decide) (by decide) (⟨_, rfl, by cases hb : (List.range (pMap (pcd a x y N1 N2) g).1.length).any (fun k => (fun _ => true) k && decide (μ4 20 (k + 1) = -1)); { refine Or.inr ⟨by rw [hr11, hb]; rfl, fun k hk => ?_⟩; have h9 := any_none hb (k := k) (by omega); rcases hD4 k (by omega) with ⟨h8, -⟩ | ⟨d, -, -, h8, -⟩; { simp [h8] at h9 }; { exact ⟨d, h8⟩ } }; { refine Or.inl ⟨by rw [hr11, hb]; rfl, ?_⟩; obtain ⟨k, hk, h9⟩ := any_iff.mp hb; simp only [Bool.true_and, decide_eq_true_eq] at h9; exact ⟨k, by omega, (mDist_dead (hD4 k hk)).mp h9⟩ }, fun q q1 q2 q3 => by rw [hq11 q q1, hq4 q q2 q3]⟩)
set_option maxRecDepth 100000 in
set_option maxHeartbeats 4000000 in
theorem m_C_superviseUnder (l : Launch) (μ : zM) {a : aT} (ha : aOk a) (hc : cRep a μ) {L : List Nat} (hL : gBase L μ) {x j : Nat} (hx : x < aN a) (h_j : j < 3) :
    zC l y_C_superviseUnder b_C_superviseUnder 4 (some .boolean) [] 5 0 117 false [zp 0, zi (x : Int), zp (33 + 6 * j)] μ (zRi (fun r μ' => ((r = 1 ∧ ∃ N K M, aReady a (aMem a (some x)) = true ∧ sMath a (aMem a (some x)) N K M ∧ 0 < M ∧ sSup a (aMem a (some x)) N K M j μ') ∨ (r = 0 ∧ sNot a x)) ∧ (∃ L', gBase L' μ') ∧ ∀ q, (q < 15 ∨ q = 26 ∨ 30 ≤ q) → (q < 33 + 6 * j ∨ 39 + 6 * j ≤ q) → μ' q = μ q)) := by
  refine zC.of (own := n_C) (L := [some (zp 0), some (zi (x : Int)), some (zp (33 + 6 * j)), none]) (by decide) rfl (by simp [zcat]) (Nat.le_of_ble_eq_true rfl) rfl (fun Γ => ?_)
  have hN4 := ha.1
  refine zU_aload_n d_C_superviseUnder_0 rfl ?_
  refine zU_getR 1 d_C_superviseUnder_1 f_C_12 (by decide) rfl rfl rfl ?_
  refine zU_callVi (p0 := 1) [] d_C_superviseUnder_4 k_C_183 rfl (by decide) rfl rfl (by decide) (Nat.le_of_ble_eq_true rfl) (fun l => m_A_plants l μ ha hc) (fun r4 μ4 h4 => ?_)
  obtain ⟨hμ4, hr4, hb4⟩ := h4
  replace hμ4 := hμ4.symm
  subst hμ4
  have hm4 : zmask 4 (zor r4 (zshl 1 (x : Int))) (aMem a (some x)) := ⟨zor_r _ _, fun i hi => by rw [zbt_or, hb4 i (by omega), zb1 (by omega) (by omega)]; by_cases h : i = x; { subst h; simp [aMem, hx] }; { simp [aMem, h] }⟩
  refine zU_iconst d_C_superviseUnder_7 ?_
  refine zU_iload_n d_C_superviseUnder_8 rfl ?_
  refine zU_ishl d_C_superviseUnder_9 ?_
  refine zU_ior d_C_superviseUnder_10 ?_
  refine zU_istore_n d_C_superviseUnder_11 (by decide) ?_
  refine zU.eqL (L' := [some (zp 0), some (zi (x : Int)), some (zp (33 + 6 * j)), some (zi (zor (r4) (zshl 1 (x : Int))))]) rfl ?_
  refine zU_aload_n d_C_superviseUnder_12 rfl ?_
  refine zU_getR 1 d_C_superviseUnder_13 f_C_12 (by decide) rfl rfl rfl ?_
  refine zU_iload_n d_C_superviseUnder_16 rfl ?_
  refine zU_callVi (p0 := 1) [zi (zor (r4) (zshl 1 (x : Int)))] d_C_superviseUnder_17 k_C_111 rfl (by decide) rfl rfl (by decide) (Nat.le_of_ble_eq_true rfl) (fun l => m_A_areReady l μ ha hc hm4) (fun r17 μ17 h17 => ?_)
  obtain ⟨hμ17, rfl⟩ := h17
  replace hμ17 := hμ17.symm
  subst hμ17
  refine zU_if_eq 46 d_C_superviseUnder_20 (by decide) (zBr _) (fun h20 => ?_) (fun h20 => ?_)
  · refine zU_iconst d_C_superviseUnder_46 ?_
    exact zU_ireturn d_C_superviseUnder_47 (Or.inr ⟨rfl, by omega⟩) (by decide) (by decide) (⟨_, rfl, Or.inr ⟨rfl, Or.inl (zB_zero.mp h20)⟩, ⟨L, hL⟩, fun _ _ _ => rfl⟩)
  · refine zU_aload_n d_C_superviseUnder_23 rfl ?_
    refine zU_getR 26 d_C_superviseUnder_24 f_C_24 (by decide) rfl rfl rfl ?_
    refine zU_iload_n d_C_superviseUnder_27 rfl ?_
    refine zU_aload_n d_C_superviseUnder_28 rfl ?_
    refine zU_callVi (p0 := 26) [zi (zor (r4) (zshl 1 (x : Int))), zp (33 + 6 * j)] d_C_superviseUnder_29 k_C_114 rfl (by decide) rfl rfl (by decide) (Nat.le_of_ble_eq_true rfl) (fun l => m_Y_build l μ ha hc hm4 (fun i hi hp => aMem_P hi hp) hL (ready_I (zB_nz.mp h20)) h_j) (fun r29 μ29 h29 => ?_)
    obtain ⟨h29, hL29, hq29⟩ := h29
    have hr29 : r29 = 0 ∨ r29 = 1 := by rcases h29 with h | h; { exact Or.inr h.1 }; { exact Or.inl h.1 }
    refine zU_if_eq 46 d_C_superviseUnder_32 (by decide) (by omega) (fun h32 => ?_) (fun h32 => ?_)
    · refine zU_iconst d_C_superviseUnder_46 ?_
      exact zU_ireturn d_C_superviseUnder_47 (Or.inr ⟨rfl, by omega⟩) (by decide) (by decide) (⟨_, rfl, Or.inr ⟨rfl, Or.inr (Or.inl ⟨zB_nz.mp h20, by rcases h29 with h | h; { exact absurd h.1 (by omega) }; { exact h.2.1 }⟩)⟩, hL29, hq29⟩)
    · obtain ⟨N, K, M, hM, hS⟩ : ∃ N K M, sMath a (aMem a (some x)) N K M ∧ sSup a (aMem a (some x)) N K M j μ29 := by
        rcases h29 with h | h
        · exact h.2
        · exact absurd h.1 h32
      have hM1 := hM.2.1.2
      have hM2 := hM.2.2.2.2.2.1
      refine zU_aload_n d_C_superviseUnder_35 rfl ?_
      refine zU_getI (v := (M : Int)) d_C_superviseUnder_36 f_C_121 (zSl0 h_j) (zSk0 h_j) rfl (hS.1) ?_
      refine zU_if_le 46 d_C_superviseUnder_39 (by decide) (by omega) (fun h39 => ?_) (fun h39 => ?_)
      · refine zU_iconst d_C_superviseUnder_46 ?_
        exact zU_ireturn d_C_superviseUnder_47 (Or.inr ⟨rfl, by omega⟩) (by decide) (by decide) (⟨_, rfl, Or.inr ⟨rfl, Or.inr (Or.inr ⟨N, K, zB_nz.mp h20, by have h0 : M = 0 := (by omega); rw [h0] at hM; exact hM⟩)⟩, hL29, hq29⟩)
      · refine zU_iconst d_C_superviseUnder_42 ?_
        refine zU_goto 47 d_C_superviseUnder_43 (by decide) ?_
        exact zU_ireturn d_C_superviseUnder_47 (Or.inr ⟨rfl, by omega⟩) (by decide) (by decide) (⟨_, rfl, Or.inl ⟨rfl, N, K, M, zB_nz.mp h20, hM, by omega, hS⟩, hL29, hq29⟩)
set_option maxRecDepth 100000 in
set_option maxHeartbeats 4000000 in
theorem m_C_conflict (l : Launch) (μ : zM) {a : aT} {v : vT} (hW : cWor a v μ) {x y : Int} (hx : -2147483648 ≤ x ∧ x ≤ 2147483647) (hy : -2147483648 ≤ y ∧ y ≤ 2147483647) :
    zC l y_C_conflict b_C_conflict 3 (some .int) [] 6 1 140 false [zp 0, zi x, zi y] μ (zRit (fun r μ' => (∃ i j : Nat, x = (i : Int) ∧ y = (j : Int) ∧ (i < aN a ∧ aP a i = false) ∧ (j < aN a ∧ aP a j = false) ∧ rConf a i j r) ∧ cWor a v μ' ∧ ∀ q, 51 ≤ q → μ' q = μ q) (fun k μ' => μ' = μ ∧ k = 0 ∧ ¬ ((0 ≤ x ∧ x < aN a ∧ aP a x.toNat = false) ∧ 0 ≤ y ∧ y < aN a ∧ aP a y.toNat = false))) := by
  refine zC.of (own := n_C) (L := [some (zp 0), some (zi x), some (zi y)]) (by decide) rfl (by simp [zcat]) (Nat.le_of_ble_eq_true rfl) rfl (fun Γ => ?_)
  obtain ⟨ha, hc, ⟨L, hL⟩, -, -⟩ := id hW
  have hN4 := ha.1
  refine zU_aload_n d_C_conflict_0 rfl ?_
  refine zU_getR 1 d_C_conflict_1 f_C_12 (by decide) rfl rfl rfl ?_
  refine zU_iload_n d_C_conflict_4 rfl ?_
  refine zU_callVi (p0 := 1) [zi x] d_C_conflict_5 k_C_166 rfl (by decide) rfl rfl (by decide) (Nat.le_of_ble_eq_true rfl) (fun l => m_A_isRule l μ ha hc hx) (fun r5 μ5 h5 => ?_)
  obtain ⟨hμ5, rfl⟩ := h5
  replace hμ5 := hμ5.symm
  subst hμ5
  refine zU_if_eq 22 d_C_conflict_8 (by decide) (zBr _) (fun h8 => ?_) (fun h8 => ?_)
  · exact zU_throw 0 d_C_conflict_22 d_C_conflict_25 d_C_conflict_26 d_C_conflict_29 w_C_50 (by decide) (Or.inr ⟨0, rfl, rfl, rfl, fun h => by have := zB_zero.mp h8; simp [h.1] at this⟩)
  · refine zU_aload_n d_C_conflict_11 rfl ?_
    refine zU_getR 1 d_C_conflict_12 f_C_12 (by decide) rfl rfl rfl ?_
    refine zU_iload_n d_C_conflict_15 rfl ?_
    refine zU_callVi (p0 := 1) [zi y] d_C_conflict_16 k_C_166 rfl (by decide) rfl rfl (by decide) (Nat.le_of_ble_eq_true rfl) (fun l => m_A_isRule l μ ha hc hy) (fun r16 μ16 h16 => ?_)
    obtain ⟨hμ16, rfl⟩ := h16
    replace hμ16 := hμ16.symm
    subst hμ16
    refine zU_if_ne 30 d_C_conflict_19 (by decide) (zBr _) (fun h19 => ?_) (fun h19 => ?_)
    · have g1 := zB_nz.mp h8
      have g2 := zB_nz.mp h19
      rw [Bool.and_eq_true, decide_eq_true_eq] at g1 g2
      obtain ⟨i, hxi⟩ : ∃ i : Nat, x = (i : Int) := ⟨x.toNat, by omega⟩
      obtain ⟨j, hyj⟩ : ∃ i : Nat, y = (i : Int) := ⟨y.toNat, by omega⟩
      subst hxi hyj
      have hi : i < aN a ∧ aP a i = false := ⟨by omega, by simpa using g1.2⟩
      have hj : j < aN a ∧ aP a j = false := ⟨by omega, by simpa using g2.2⟩
      refine zU.eqL (L' := [some (zp 0), some (zi (i : Int)), some (zi (j : Int))]) (rfl) ?_
      refine zU_aload_n d_C_conflict_30 rfl ?_
      refine zU_iload_n d_C_conflict_31 rfl ?_
      refine zU_aload_n d_C_conflict_32 rfl ?_
      refine zU_getR 39 d_C_conflict_33 f_C_44 (by decide) rfl rfl rfl ?_
      refine zU_callVi (p0 := 0) [zi (i : Int), zp 39] d_C_conflict_36 k_C_169 rfl (by decide) rfl rfl (by decide) (Nat.le_of_ble_eq_true rfl) (fun l => m_C_superviseUnder l μ ha hc hL (x := i) (j := 1) hi.1 (by decide)) (fun r36 μ36 h36 => ?_)
      obtain ⟨h36, ⟨L1, hL1⟩, hq36⟩ := h36
      have hr36 : r36 = 0 ∨ r36 = 1 := by rcases h36 with h | h; { exact Or.inr h.1 }; { exact Or.inl h.1 }
      have hW36 : cWor a v μ36 := cWor_keep hW (fun q h => hq36 q (by omega) (by omega)) ⟨L1, hL1⟩
      refine zU_if_eq 54 d_C_conflict_39 (by decide) (by omega) (fun h39 => ?_) (fun h39 => ?_)
      · refine zU_iconst d_C_conflict_54 ?_
        exact zU_ireturn d_C_conflict_55 (Or.inl rfl) (by decide) (by decide) (Or.inl ⟨_, rfl, ⟨i, j, rfl, rfl, hi, hj, Or.inl ⟨rfl, by rcases h36 with h | h; { exact absurd h.1 (by omega) }; { exact h.2 }⟩⟩, hW36, fun q h => hq36 q (by omega) (by omega)⟩)
      · refine zU_aload_n d_C_conflict_42 rfl ?_
        refine zU_iload_n d_C_conflict_43 rfl ?_
        refine zU_aload_n d_C_conflict_44 rfl ?_
        refine zU_getR 45 d_C_conflict_45 f_C_47 (by decide) rfl rfl rfl ?_
        refine zU_callVi (p0 := 0) [zi (j : Int), zp 45] d_C_conflict_48 k_C_169 rfl (by decide) rfl rfl (by decide) (Nat.le_of_ble_eq_true rfl) (fun l => m_C_superviseUnder l μ36 ha hW36.2.1 hL1 (x := j) (j := 2) hj.1 (by decide)) (fun r48 μ48 h48 => ?_)
        obtain ⟨h48, ⟨L2, hL2⟩, hq48⟩ := h48
        have hr48 : r48 = 0 ∨ r48 = 1 := by rcases h48 with h | h; { exact Or.inr h.1 }; { exact Or.inl h.1 }
        have hW48 : cWor a v μ48 := cWor_keep hW36 (fun q h => hq48 q (by omega) (by omega)) ⟨L2, hL2⟩
        have hqa : ∀ q, 51 ≤ q → μ48 q = μ q := fun q h => by rw [hq48 q (by omega) (by omega), hq36 q (by omega) (by omega)]
        refine zU_if_ne 56 d_C_conflict_51 (by decide) (by omega) (fun h51 => ?_) (fun h51 => ?_)
        · obtain ⟨N1, K1, M1, hR1, hM1, hp1, hS1⟩ : ∃ N K M, aReady a (aMem a (some i)) = true ∧ sMath a (aMem a (some i)) N K M ∧ 0 < M ∧ sSup a (aMem a (some i)) N K M 1 μ36 := by rcases h36 with h | h; { exact h.2 }; { exact absurd h.1 h39 }
          obtain ⟨N2, K2, M2, hR2, hM2, hp2, hS2⟩ : ∃ N K M, aReady a (aMem a (some j)) = true ∧ sMath a (aMem a (some j)) N K M ∧ 0 < M ∧ sSup a (aMem a (some j)) N K M 2 μ48 := by rcases h48 with h | h; { exact h.2 }; { exact absurd h.1 h51 }
          have hH : pH a i j N1 K1 M1 N2 K2 M2 := ⟨ha, hi, hj, hM1, hM2, hp1, hp2⟩
          refine zU_aload_n d_C_conflict_56 rfl ?_
          refine zU_getR 30 d_C_conflict_57 f_C_33 (by decide) rfl rfl rfl ?_
          refine zU_aload_n d_C_conflict_60 rfl ?_
          refine zU_getR 39 d_C_conflict_61 f_C_44 (by decide) rfl rfl rfl ?_
          refine zU_aload_n d_C_conflict_64 rfl ?_
          refine zU_getR 45 d_C_conflict_65 f_C_47 (by decide) rfl rfl rfl ?_
          refine zU_callVi (p0 := 30) [zp 39, zp 45] d_C_conflict_68 k_C_172 rfl (by decide) rfl rfl (by decide) (Nat.le_of_ble_eq_true rfl) (fun l => m_P_explore l μ48 hH (sSup_congr hS1 (fun q _ _ => hq48 q (by omega) (by omega))) hS2 hL2) (fun r68 μ68 h68 => ?_)
          obtain ⟨h68, hq68⟩ := h68
          have hr68 : r68 = 0 ∨ r68 = 1 := by rcases h68 with h | h; { exact Or.inr h.1 }; { exact Or.inl h.1 }
          refine zU_if_ne 76 d_C_conflict_71 (by decide) (by omega) (fun h71 => ?_) (fun h71 => ?_)
          · obtain ⟨n, hF68, hn68, hG68, hMk68⟩ : ∃ n, gFin (pq a i j N1 K1 N2 K2) 0 n ∧ n ≤ 200 ∧ gRep (pMap (pcd a i j N1 N2) (gAt (pq a i j N1 K1 N2 K2) 0 (12 * n))) μ68 ∧ pMk (pGoal a i j N1 N2) (gAt (pq a i j N1 K1 N2 K2) 0 (12 * n)).1 n μ68 := by rcases h68 with h | h; { exact h.2 }; { exact absurd h.1 h71 }
            refine zU_aload_n d_C_conflict_76 rfl ?_
            refine zU_getR 30 d_C_conflict_77 f_C_33 (by decide) rfl rfl rfl ?_
            refine zU_callVi (p0 := 30) [] d_C_conflict_80 k_C_176 rfl (by decide) rfl rfl (by decide) (Nat.le_of_ble_eq_true rfl) (fun l => m_P_haveDeadEnd l μ68 hG68 hMk68 hF68.1 hn68 (Nat.le_trans (gAt_es _ _ _) (by omega))) (fun r80 μ80 h80 => ?_)
            obtain ⟨h80, hq80⟩ := h80
            have hr80 : r80 = 0 ∨ r80 = 1 := by rcases h80 with h | h; { exact Or.inr h.1 }; { exact Or.inl h.1 }
            have hW80 : cWor a v μ80 := cWor_keep hW48 (fun q h => by rw [hq80 q (by omega) (by omega) (by omega), hq68 q (by omega) (by omega) (by omega)]) ⟨_, gBase_congr hG68.1 (hq80 _ (by decide) (by decide) (by decide)) (hq80 _ (by decide) (by decide) (by decide)) (hq80 _ (by decide) (by decide) (by decide))⟩
            have hqb : ∀ q, 51 ≤ q → μ80 q = μ q := fun q h => by rw [hq80 q (by omega) (by omega) (by omega), hq68 q (by omega) (by omega) (by omega), hqa q h]
            refine zU_if_eq 90 d_C_conflict_83 (by decide) (by omega) (fun h83 => ?_) (fun h83 => ?_)
            · refine zU_iconst d_C_conflict_90 ?_
              exact zU_ireturn d_C_conflict_91 (Or.inl rfl) (by decide) (by decide) (Or.inl ⟨_, rfl, ⟨i, j, rfl, rfl, hi, hj, Or.inr (Or.inr ⟨N1, K1, M1, N2, K2, M2, hH, hR1, hR2, Or.inr ⟨n, hF68, hn68, Or.inr ⟨rfl, by rcases h80 with h | h; { exact absurd h.1 (by omega) }; { exact h.2 }⟩⟩⟩)⟩, hW80, hqb⟩)
            · refine zU_iconst d_C_conflict_86 ?_
              refine zU_goto 91 d_C_conflict_87 (by decide) ?_
              exact zU_ireturn d_C_conflict_91 (Or.inl rfl) (by decide) (by decide) (Or.inl ⟨_, rfl, ⟨i, j, rfl, rfl, hi, hj, Or.inr (Or.inr ⟨N1, K1, M1, N2, K2, M2, hH, hR1, hR2, Or.inr ⟨n, hF68, hn68, Or.inl ⟨rfl, by rcases h80 with h | h; { exact h.2 }; { exact absurd h.1 h83 }⟩⟩⟩)⟩, hW80, hqb⟩)
          · refine zU_iconst d_C_conflict_74 ?_
            exact zU_ireturn d_C_conflict_75 (Or.inl rfl) (by decide) (by decide) (Or.inl ⟨_, rfl, ⟨i, j, rfl, rfl, hi, hj, Or.inr (Or.inr ⟨N1, K1, M1, N2, K2, M2, hH, hR1, hR2, Or.inl ⟨rfl, by rcases h68 with h | h; { exact absurd h.1 (by omega) }; { exact h.2.1 }⟩⟩)⟩, cWor_keep hW48 (fun q h => hq68 q (by omega) (by omega) (by omega)) (by rcases h68 with h | h; { exact absurd h.1 (by omega) }; { exact h.2.2 }), fun q h => by rw [hq68 q (by omega) (by omega) (by omega), hqa q h]⟩)
        · refine zU_iconst d_C_conflict_54 ?_
          exact zU_ireturn d_C_conflict_55 (Or.inl rfl) (by decide) (by decide) (Or.inl ⟨_, rfl, ⟨i, j, rfl, rfl, hi, hj, Or.inr (Or.inl ⟨rfl, by rcases h48 with h | h; { exact absurd h.1 (by omega) }; { exact h.2 }, by rcases h36 with h | h; { obtain ⟨-, N, K, M, g1, g2, g3, -⟩ := h; exact ⟨N, K, M, g1, g2, g3⟩ }; { exact absurd h.1 h39 }⟩)⟩, hW48, hqa⟩)
    · exact zU_throw 0 d_C_conflict_22 d_C_conflict_25 d_C_conflict_26 d_C_conflict_29 w_C_50 (by decide) (Or.inr ⟨0, rfl, rfl, rfl, fun h => by have := zB_zero.mp h19; simp [h.2] at this⟩)
