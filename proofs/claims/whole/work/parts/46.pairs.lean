theorem pRow_set {O1 O2 L L' : List Nat} {μ μ1 : zM} {j q s t : Nat} (h : pRow O1 O2 L μ) (hj : L'[j]? = some q) (ho : ∀ (i p : Nat), i ≠ j → L'[i]? = some p → L[i]? = some p) (hs : O1[s]? = some (q / 256)) (ht : O2[t]? = some (q % 256)) (h31 : μ1 31 = μ 31) (h32 : μ1 32 = μ 32) :
    pRow O1 O2 L' (zup (zup μ1 31 (j + 1) ((s + 1 : Nat) : Int)) 32 (j + 1) ((t + 1 : Nat) : Int)) := by
  intro i p hp
  by_cases hi : i = j
  · subst hi
    rw [hj] at hp
    cases hp
    exact ⟨⟨s, hs, by rw [zup_ne _ _ _ (by decide), zup_at]; simp⟩, ⟨t, ht, by rw [zup_at]; simp⟩⟩
  · obtain ⟨⟨s1, h1, h2⟩, ⟨t1, h3, h4⟩⟩ := h i p (ho i p hi hp)
    exact ⟨⟨s1, h1, by rw [zup_ne _ _ _ (by decide), zup_at, if_neg (by omega), h31]; exact h2⟩, ⟨t1, h3, by rw [zup_at, if_neg (by omega), zup_ne _ _ _ (by decide), h32]; exact h4⟩⟩
set_option maxRecDepth 100000 in
set_option maxHeartbeats 4000000 in
theorem m_P_pairCode (l : Launch) (μ : zM) {j i s t c d : Nat} (h_j : j < 3) (h_i : i < 3) (hs : s < 200) (ht : t < 200) (hc : μ (35 + 6 * j) (s + 1) = (c : Int)) (hd : μ (35 + 6 * i) (t + 1) = (d : Int)) (hcl : c < 4096) (hdl : d < 4096) :
    zC l y_P_pairCode b_P_pairCode 4 (some .int) [] 0 0 0 true [zp (33 + 6 * j), zi ((s + 1 : Nat) : Int), zp (33 + 6 * i), zi ((t + 1 : Nat) : Int)] μ (zRi (fun r μ' => μ' = μ ∧ r = ((c ||| d : Nat) : Int))) := by
  refine zC.of (own := n_P) (L := [some (zp (33 + 6 * j)), some (zi ((s + 1 : Nat) : Int)), some (zp (33 + 6 * i)), some (zi ((t + 1 : Nat) : Int))]) (by decide) rfl (by simp [zcat]) (Nat.le_of_ble_eq_true rfl) rfl (fun Γ => ?_)
  refine zU_aload_n d_P_pairCode_0 rfl ?_
  refine zU_getR (35 + 6 * j) d_P_pairCode_1 f_P_40 (zSl0 h_j) (zSk0 h_j) rfl (zSr5 h_j) ?_
  refine zU_iload_n d_P_pairCode_4 rfl ?_
  refine zU_iald (v := (c : Int)) d_P_pairCode_5 (zSl2 h_j) (zSk2 h_j) (by decide) (by omega) (hc) ?_
  refine zU_aload_n d_P_pairCode_6 rfl ?_
  refine zU_getR (35 + 6 * i) d_P_pairCode_7 f_P_40 (zSl0 h_i) (zSk0 h_i) rfl (zSr5 h_i) ?_
  refine zU_iload_n d_P_pairCode_10 rfl ?_
  refine zU_iald (v := (d : Int)) d_P_pairCode_11 (zSl2 h_i) (zSk2 h_i) (by decide) (by omega) (hd) ?_
  refine zU_ior d_P_pairCode_12 ?_
  exact zU_ireturn d_P_pairCode_13 (Or.inl rfl) (by decide) (by decide) (⟨_, rfl, rfl, zor_nat (by omega) (by omega)⟩)
set_option maxRecDepth 100000 in
set_option maxHeartbeats 4000000 in
theorem m_P_exploreFrom (l : Launch) (μ : zM) {a : aT} {x y N1 M1 N2 M2 : Nat} {K1 K2 : Nat → Bool} (hH : pH a x y N1 K1 M1 N2 K2 M2) (hS1 : sSup a (aMem a (some x)) N1 K1 M1 1 μ) (hS2 : sSup a (aMem a (some y)) N2 K2 M2 2 μ) {k : Nat} (hG : gRep (pMap (pcd a x y N1 N2) (gAt (pq a x y N1 K1 N2 K2) 0 (12 * k))) μ) (hR : pRow (oAt (gtg (rg a x N1)) K1 (12 * M1)) (oAt (gtg (rg a y N2)) K2 (12 * M2)) (gAt (pq a x y N1 K1 N2 K2) 0 (12 * k)).1 μ) (hMk : pMk (pGoal a x y N1 N2) (gAt (pq a x y N1 K1 N2 K2) 0 (12 * k)).1 k μ) (hk : k < (gAt (pq a x y N1 K1 N2 K2) 0 (12 * k)).1.length) :
    zC l y_P_exploreFrom b_P_exploreFrom 8 (some .boolean) [] 2 0 48 false [zp 30, zi ((k + 1 : Nat) : Int), zp 39, zp 45] μ (zRi (fun r μ' => ((r = 1 ∧ gRep (pMap (pcd a x y N1 N2) (gAt (pq a x y N1 K1 N2 K2) 0 (12 * (k + 1)))) μ' ∧ pRow (oAt (gtg (rg a x N1)) K1 (12 * M1)) (oAt (gtg (rg a y N2)) K2 (12 * M2)) (gAt (pq a x y N1 K1 N2 K2) 0 (12 * (k + 1))).1 μ' ∧ pMk (pGoal a x y N1 N2) (gAt (pq a x y N1 K1 N2 K2) 0 (12 * (k + 1))).1 (k + 1) μ') ∨ (r = 0 ∧ gMany (pq a x y N1 K1 N2 K2) 0 ∧ ∃ L', gBase L' μ')) ∧ ∀ q, (q < 15 ∨ 25 ≤ q) → q ≠ 31 → q ≠ 32 → μ' q = μ q)) := by
  refine zC.of (own := n_P) (L := [some (zp 30), some (zi ((k + 1 : Nat) : Int)), some (zp 39), some (zp 45), none, none, none, none]) (by decide) rfl (by simp [zcat]) (Nat.le_of_ble_eq_true rfl) rfl (fun Γ => ?_)
  obtain ⟨p, hp⟩ : ∃ p, (gAt (pq a x y N1 K1 N2 K2) 0 (12 * k)).1[k]? = some p := ⟨_, List.getElem?_eq_getElem hk⟩
  have hlen : (gAt (pq a x y N1 K1 N2 K2) 0 (12 * k)).1.length ≤ 200 := by have := hG.1.2.1; simpa [pMap] using this
  have hpo := gAt_pOk hH _ p (List.mem_of_getElem? hp)
  obtain ⟨⟨s, hs1, hs2⟩, ⟨t, ht1, ht2⟩⟩ := hR k p hp
  obtain ⟨ha, hx, hy, hM1, hM2, -, -⟩ := id hH
  have hl1 : (oAt (gtg (rg a x N1)) K1 (12 * M1)).length = M1 := hM1.2.2.2.2.1.1
  have hl2 : (oAt (gtg (rg a y N2)) K2 (12 * M2)).length = M2 := hM2.2.2.2.2.1.1
  have hN1 := hM1.2.1.2
  have hN2 := hM2.2.1.2
  have hMN1 := hM1.2.2.2.2.2.1
  have hMN2 := hM2.2.2.2.2.2.1
  have hsM : s < M1 := by have := (List.getElem?_eq_some_iff.mp hs1).1; omega
  have htM : t < M2 := by have := (List.getElem?_eq_some_iff.mp ht1).1; omega
  have hD1 : mDist (gtg (rg a x N1)) K1 (sG a (aMem a (some x)) (rg a x N1)) (p / 256) (μ (37 + 6 * 1) (s + 1)) := (hS1.2.2.2.2 s _ hsM hs1).2.2.1
  have hD2 : mDist (gtg (rg a y N2)) K2 (sG a (aMem a (some y)) (rg a y N2)) (p % 256) (μ (37 + 6 * 2) (t + 1)) := (hS2.2.2.2.2 t _ htM ht1).2.2.1
  have hg1 := mDist_0 hD1 (oAt_kept _ _ _ _ (List.mem_of_getElem? hs1))
  have hg2 := mDist_0 hD2 (oAt_kept _ _ _ _ (List.mem_of_getElem? ht1))
  refine zU_aload_n d_P_exploreFrom_0 rfl ?_
  refine zU_getR 15 d_P_exploreFrom_1 f_P_18 (by decide) rfl rfl rfl ?_
  refine zU_getR 18 d_P_exploreFrom_4 f_P_45 (by decide) rfl rfl rfl ?_
  refine zU_iload_n d_P_exploreFrom_7 rfl ?_
  refine zU_aload_n d_P_exploreFrom_8 rfl ?_
  refine zU_aload_n d_P_exploreFrom_9 rfl ?_
  refine zU_getR 31 d_P_exploreFrom_10 f_P_9 (by decide) rfl rfl rfl ?_
  refine zU_iload_n d_P_exploreFrom_13 rfl ?_
  refine zU_iald (v := ((s + 1 : Nat) : Int)) d_P_exploreFrom_14 (by decide) rfl (by decide) (by omega) (hs2) ?_
  refine zU_callVi (p0 := 39) [zi ((s + 1 : Nat) : Int)] d_P_exploreFrom_15 k_P_49 rfl (by decide) rfl rfl (by decide) (Nat.le_of_ble_eq_true rfl) (fun l => m_S_isMarked l μ (j := 1) (s := s) (by decide) (by omega) (by have := mDist_r hD1; omega)) (fun r15 μ15 h15 => ?_)
  obtain ⟨hμ15, hr15⟩ := h15
  replace hμ15 := hμ15.symm
  subst hμ15
  have he15 : decide (μ (37 + 6 * 1) (s + 1) = 0) = sG a (aMem a (some x)) (rg a x N1) (p / 256) := by by_cases h : μ (37 + 6 * 1) (s + 1) = 0; { rw [decide_eq_true h, hg1.mp h] }; { rw [decide_eq_false h]; cases hb : sG a (aMem a (some x)) (rg a x N1) (p / 256); { rfl }; { exact absurd (hg1.mpr hb) h } }
  rw [he15] at hr15
  subst hr15
  have hJ39 : zU Γ b_P_exploreFrom n_P 8 (some .boolean) [] (zRm 2 0 48) 0 0 (zFin Γ 0 false (zRi (fun r μ' => ((r = 1 ∧ gRep (pMap (pcd a x y N1 N2) (gAt (pq a x y N1 K1 N2 K2) 0 (12 * (k + 1)))) μ' ∧ pRow (oAt (gtg (rg a x N1)) K1 (12 * M1)) (oAt (gtg (rg a y N2)) K2 (12 * M2)) (gAt (pq a x y N1 K1 N2 K2) 0 (12 * (k + 1))).1 μ' ∧ pMk (pGoal a x y N1 N2) (gAt (pq a x y N1 K1 N2 K2) 0 (12 * (k + 1))).1 (k + 1) μ') ∨ (r = 0 ∧ gMany (pq a x y N1 K1 N2 K2) 0 ∧ ∃ L', gBase L' μ')) ∧ ∀ q, (q < 15 ∨ 25 ≤ q) → q ≠ 31 → q ≠ 32 → μ' q = μ q))) true 0 μ 39 [some (zp 30), some (zi ((k + 1 : Nat) : Int)), some (zp 39), some (zp 45), none, none, none, none] [zi (zB (pGoal a x y N1 N2 p)), zi ((k + 1 : Nat) : Int), zp 18] := by
    refine zU_zast d_P_exploreFrom_39 (by decide) rfl (by decide) (by omega) (zB_or _) ?_
    refine zU.eqM (μ' := (zup μ 18 (k + 1) (zB (pGoal a x y N1 N2 p)))) rfl ?_
    refine zU_aload_n d_P_exploreFrom_40 rfl ?_
    refine zU_getR 15 d_P_exploreFrom_41 f_P_18 (by decide) rfl rfl rfl ?_
    refine zU_getR 19 d_P_exploreFrom_44 f_P_53 (by decide) rfl rfl rfl ?_
    refine zU_iload_n d_P_exploreFrom_47 rfl ?_
    refine zU_iconst d_P_exploreFrom_48 ?_
    refine zU_zast d_P_exploreFrom_49 (by decide) rfl (by decide) (by omega) (by omega) ?_
    obtain ⟨μ3, hμ3⟩ : ∃ μ3, μ3 = (zup (zup μ 18 (k + 1) (zB (pGoal a x y N1 N2 p))) 19 (k + 1) 1) := ⟨_, rfl⟩
    refine zU.eqM (μ' := μ3) hμ3.symm ?_
    have hq3 : ∀ q, q ≠ 18 → q ≠ 19 → μ3 q = μ q := fun q q1 q2 => by rw [hμ3, zup_ne _ _ _ q2, zup_ne _ _ _ q1]
    have hG3 : gRep (pMap (pcd a x y N1 N2) (gAt (pq a x y N1 K1 N2 K2) 0 (12 * k + 0))) μ3 := gRep_congr hG (fun q h => hq3 q (by omega) (by omega))
    have hR3 : pRow (oAt (gtg (rg a x N1)) K1 (12 * M1)) (oAt (gtg (rg a y N2)) K2 (12 * M2)) (gAt (pq a x y N1 K1 N2 K2) 0 (12 * k + 0)).1 μ3 := by unfold pRow; rw [hq3 31 (by decide) (by decide), hq3 32 (by decide) (by decide)]; exact hR
    have hM3 : pMk (pGoal a x y N1 N2) (gAt (pq a x y N1 K1 N2 K2) 0 (12 * k)).1 (k + 1) μ3 := by
      intro i p' hi hp'
      rw [hμ3, zup_ne _ _ _ (by decide), zup_at, zup_at]
      by_cases h : i = k
      · subst h
        rw [hp] at hp'
        cases hp'
        simp
      · have := hMk i p' (by omega) hp'
        rw [if_neg (by omega), if_neg (by omega), zup_ne _ _ _ (by decide)]
        exact this
    refine zU_iconst d_P_exploreFrom_50 ?_
    refine zU_istore d_P_exploreFrom_51 (by decide) ?_
    refine zU.eqL (L' := [some (zp 30), some (zi ((k + 1 : Nat) : Int)), some (zp 39), some (zp 45), some (zi 0), none, none, none]) rfl ?_
    have hJ53 : ∀ (d : Nat) (e : Nat) (μ4 : zM), e + d = 12 → gRep (pMap (pcd a x y N1 N2) (gAt (pq a x y N1 K1 N2 K2) 0 (12 * k + e))) μ4 → pRow (oAt (gtg (rg a x N1)) K1 (12 * M1)) (oAt (gtg (rg a y N2)) K2 (12 * M2)) (gAt (pq a x y N1 K1 N2 K2) 0 (12 * k + e)).1 μ4 → (∀ q, q ≠ 15 → q ≠ 16 → q ≠ 17 → q ≠ 21 → q ≠ 22 → q ≠ 23 → q ≠ 24 → q ≠ 31 → q ≠ 32 → μ4 q = μ3 q) → zU Γ b_P_exploreFrom n_P 8 (some .boolean) [] (zRm 2 0 48) 0 0 (zFin Γ 0 false (zRi (fun r μ' => ((r = 1 ∧ gRep (pMap (pcd a x y N1 N2) (gAt (pq a x y N1 K1 N2 K2) 0 (12 * (k + 1)))) μ' ∧ pRow (oAt (gtg (rg a x N1)) K1 (12 * M1)) (oAt (gtg (rg a y N2)) K2 (12 * M2)) (gAt (pq a x y N1 K1 N2 K2) 0 (12 * (k + 1))).1 μ' ∧ pMk (pGoal a x y N1 N2) (gAt (pq a x y N1 K1 N2 K2) 0 (12 * (k + 1))).1 (k + 1) μ') ∨ (r = 0 ∧ gMany (pq a x y N1 K1 N2 K2) 0 ∧ ∃ L', gBase L' μ')) ∧ ∀ q, (q < 15 ∨ 25 ≤ q) → q ≠ 31 → q ≠ 32 → μ' q = μ q))) false 0 μ4 53 [some (zp 30), some (zi ((k + 1 : Nat) : Int)), some (zp 39), some (zp 45), some (zi (e : Int)), none, none, none] [] := by
      intro d
      induction d using Nat.strongRecOn with
      | _ d ih53 =>
        intro e μ4 hd hG4 hR4 hq4
        have hq4' : ∀ q, (q < 15 ∨ 25 ≤ q) → q ≠ 31 → q ≠ 32 → μ4 q = μ q := fun q h1 h2 h3 => by rw [hq4 q (by omega) (by omega) (by omega) (by omega) (by omega) (by omega) (by omega) h2 h3, hq3 q (by omega) (by omega)]
        refine zU_iload d_P_exploreFrom_53 rfl ?_
        refine zU_bipush d_P_exploreFrom_55 (by decide) ?_
        refine zU_icmp_ge 150 d_P_exploreFrom_57 (by decide) (by omega) (by omega) (fun h57 => ?_) (fun h57 => ?_)
        · refine zU_iconst d_P_exploreFrom_150 ?_
          exact zU_ireturn d_P_exploreFrom_151 (Or.inr ⟨rfl, by omega⟩) (by decide) (by decide) (⟨_, rfl, Or.inl ⟨rfl, by have h9 : 12 * (k + 1) = 12 * k + e := (by omega); rw [h9]; exact hG4, by have h9 : 12 * (k + 1) = 12 * k + e := (by omega); rw [h9]; exact hR4, fun i p' hi hp' => by rw [hq4 18 (by decide) (by decide) (by decide) (by decide) (by decide) (by decide) (by decide) (by decide) (by decide), hq4 19 (by decide) (by decide) (by decide) (by decide) (by decide) (by decide) (by decide) (by decide) (by decide)]; exact hM3 i p' hi (by obtain ⟨p2, hp2⟩ : ∃ p2, (gAt (pq a x y N1 K1 N2 K2) 0 (12 * k)).1[i]? = some p2 := ⟨_, List.getElem?_eq_getElem (by omega)⟩; have h9 := gAt_get (show 12 * k ≤ 12 * (k + 1) by omega) hp2; rw [h9] at hp'; rw [hp2]; exact hp')⟩, hq4'⟩)
        · have he : e < 12 := by omega
          have hp4 := gAt_get (show 12 * k ≤ 12 * k + e by omega) hp
          have hkl4 := (List.getElem?_eq_some_iff.mp hp4).1
          have hlen4 : (gAt (pq a x y N1 K1 N2 K2) 0 (12 * k + e)).1.length ≤ 200 := by have := hG4.1.2.1; simpa [pMap] using this
          obtain ⟨⟨s', hs1', h31a⟩, ⟨t', ht1', h32a⟩⟩ := hR4 k p hp4
          have hsM' : s' < M1 := by have := (List.getElem?_eq_some_iff.mp hs1').1; omega
          have htM' : t' < M2 := by have := (List.getElem?_eq_some_iff.mp ht1').1; omega
          have hno : (ktg (gtg (rg a x N1)) K1 (p / 256) e = 0 ∨ ktg (gtg (rg a y N2)) K2 (p % 256) e = 0) → (gAt (pq a x y N1 K1 N2 K2) 0 (12 * k + (e + 1))) = (gAt (pq a x y N1 K1 N2 K2) 0 (12 * k + e)) := fun h => by rw [gAt_next _ _ he, gStep_none hp4 (by show nxQ _ _ p e = none; unfold nxQ; rw [if_neg (by rintro ⟨h1, h2⟩; rcases h with h | h; { exact h1 h }; { exact h2 h })])]
          refine zU_aload_n d_P_exploreFrom_60 rfl ?_
          refine zU_aload_n d_P_exploreFrom_61 rfl ?_
          refine zU_getR 31 d_P_exploreFrom_62 f_P_9 (by decide) rfl rfl rfl ?_
          refine zU_iload_n d_P_exploreFrom_65 rfl ?_
          refine zU_iald (v := ((s' + 1 : Nat) : Int)) d_P_exploreFrom_66 (by decide) rfl (by decide) (by omega) (h31a) ?_
          refine zU_iload d_P_exploreFrom_67 rfl ?_
          refine zU_callVi (p0 := 39) [zi ((s' + 1 : Nat) : Int), zi (e : Int)] d_P_exploreFrom_69 k_P_56 rfl (by decide) rfl rfl (by decide) (Nat.le_of_ble_eq_true rfl) (fun l => m_S_target l μ4 (j := 1) (s := s') (e := e) (by decide) (by omega) he) (fun r69 μ69 h69 => ?_)
          obtain ⟨hμ69, hr69⟩ := h69
          replace hμ69 := hμ69.symm
          subst hμ69
          have hT1 : sT (rg a x N1) K1 (oAt (gtg (rg a x N1)) K1 (12 * M1)) (p / 256) e r69 := by rw [hr69, hq4' (38 + 6 * 1) (by omega) (by omega) (by omega)]; exact (hS1.2.2.2.2 s' _ hsM' hs1').2.2.2 e he
          have hTr1 := sT_r hT1 (by omega)
          have hTn1 := sT_nz hT1
          refine zU_istore d_P_exploreFrom_72 (by decide) ?_
          refine zU.eqL (L' := [some (zp 30), some (zi ((k + 1 : Nat) : Int)), some (zp 39), some (zp 45), some (zi (e : Int)), some (zi (r69)), none, none]) rfl ?_
          refine zU_aload_n d_P_exploreFrom_74 rfl ?_
          refine zU_aload_n d_P_exploreFrom_75 rfl ?_
          refine zU_getR 32 d_P_exploreFrom_76 f_P_15 (by decide) rfl rfl rfl ?_
          refine zU_iload_n d_P_exploreFrom_79 rfl ?_
          refine zU_iald (v := ((t' + 1 : Nat) : Int)) d_P_exploreFrom_80 (by decide) rfl (by decide) (by omega) (h32a) ?_
          refine zU_iload d_P_exploreFrom_81 rfl ?_
          refine zU_callVi (p0 := 45) [zi ((t' + 1 : Nat) : Int), zi (e : Int)] d_P_exploreFrom_83 k_P_56 rfl (by decide) rfl rfl (by decide) (Nat.le_of_ble_eq_true rfl) (fun l => m_S_target l μ4 (j := 2) (s := t') (e := e) (by decide) (by omega) he) (fun r83 μ83 h83 => ?_)
          obtain ⟨hμ83, hr83⟩ := h83
          replace hμ83 := hμ83.symm
          subst hμ83
          have hT2 : sT (rg a y N2) K2 (oAt (gtg (rg a y N2)) K2 (12 * M2)) (p % 256) e r83 := by rw [hr83, hq4' (38 + 6 * 2) (by omega) (by omega) (by omega)]; exact (hS2.2.2.2.2 t' _ htM' ht1').2.2.2 e he
          have hTr2 := sT_r hT2 (by omega)
          have hTn2 := sT_nz hT2
          refine zU_istore d_P_exploreFrom_86 (by decide) ?_
          refine zU.eqL (L' := [some (zp 30), some (zi ((k + 1 : Nat) : Int)), some (zp 39), some (zp 45), some (zi (e : Int)), some (zi (r69)), some (zi (r83)), none]) rfl ?_
          refine zU_iload d_P_exploreFrom_88 rfl ?_
          refine zU_if_eq 144 d_P_exploreFrom_90 (by decide) (by omega) (fun h90 => ?_) (fun h90 => ?_)
          · refine zU_iinc d_P_exploreFrom_144 rfl ?_
            refine zU.eqL (L' := [some (zp 30), some (zi ((k + 1 : Nat) : Int)), some (zp 39), some (zp 45), some (zi (((e + 1 : Nat) : Int))), some (zi (r69)), some (zi (r83)), none]) (by first | rfl | exact congrArg (fun zz : Int => [some (zp 30), some (zi ((k + 1 : Nat) : Int)), some (zp 39), some (zp 45), some (zi zz), some (zi (r69)), some (zi (r83)), none]) (show ((e : Int) + 1 : Int) = ((e + 1 : Nat) : Int) by omega)) ?_
            refine zU_goto 53 d_P_exploreFrom_147 (by decide) ?_
            refine zU.drop 5 (L' := [some (zp 30), some (zi ((k + 1 : Nat) : Int)), some (zp 39), some (zp 45), some (zi (((e + 1 : Nat) : Int))), none, some (zi (r83)), none]) rfl ?_
            refine zU.drop 6 (L' := [some (zp 30), some (zi ((k + 1 : Nat) : Int)), some (zp 39), some (zp 45), some (zi (((e + 1 : Nat) : Int))), none, none, none]) rfl ?_
            exact ih53 (d - 1) (by omega) (e + 1) μ4 (by omega) (by rw [hno (Or.inl (hTn1.mp h90))]; exact hG4) (by rw [hno (Or.inl (hTn1.mp h90))]; exact hR4) hq4
          · refine zU_iload d_P_exploreFrom_93 rfl ?_
            refine zU_if_eq 144 d_P_exploreFrom_95 (by decide) (by omega) (fun h95 => ?_) (fun h95 => ?_)
            · refine zU_iinc d_P_exploreFrom_144 rfl ?_
              refine zU.eqL (L' := [some (zp 30), some (zi ((k + 1 : Nat) : Int)), some (zp 39), some (zp 45), some (zi (((e + 1 : Nat) : Int))), some (zi (r69)), some (zi (r83)), none]) (by first | rfl | exact congrArg (fun zz : Int => [some (zp 30), some (zi ((k + 1 : Nat) : Int)), some (zp 39), some (zp 45), some (zi zz), some (zi (r69)), some (zi (r83)), none]) (show ((e : Int) + 1 : Int) = ((e + 1 : Nat) : Int) by omega)) ?_
              refine zU_goto 53 d_P_exploreFrom_147 (by decide) ?_
              refine zU.drop 5 (L' := [some (zp 30), some (zi ((k + 1 : Nat) : Int)), some (zp 39), some (zp 45), some (zi (((e + 1 : Nat) : Int))), none, some (zi (r83)), none]) rfl ?_
              refine zU.drop 6 (L' := [some (zp 30), some (zi ((k + 1 : Nat) : Int)), some (zp 39), some (zp 45), some (zi (((e + 1 : Nat) : Int))), none, none, none]) rfl ?_
              exact ih53 (d - 1) (by omega) (e + 1) μ4 (by omega) (by rw [hno (Or.inr (hTn2.mp h95))]; exact hG4) (by rw [hno (Or.inr (hTn2.mp h95))]; exact hR4) hq4
            · obtain ⟨hk1, sa, hsa1, hsa2⟩ : ktg (gtg (rg a x N1)) K1 (p / 256) e ≠ 0 ∧ ∃ s, (oAt (gtg (rg a x N1)) K1 (12 * M1))[s]? = some (ktg (gtg (rg a x N1)) K1 (p / 256) e - 1) ∧ r69 = ((s + 1 : Nat) : Int) := by
                rcases hT1 with h | h
                · exact absurd h.2 h90
                · exact h
              obtain ⟨hk2, sb, hsb1, hsb2⟩ : ktg (gtg (rg a y N2)) K2 (p % 256) e ≠ 0 ∧ ∃ s, (oAt (gtg (rg a y N2)) K2 (12 * M2))[s]? = some (ktg (gtg (rg a y N2)) K2 (p % 256) e - 1) ∧ r83 = ((s + 1 : Nat) : Int) := by
                rcases hT2 with h | h
                · exact absurd h.2 h95
                · exact h
              have hsaM : sa < M1 := by have := (List.getElem?_eq_some_iff.mp hsa1).1; omega
              have hsbM : sb < M2 := by have := (List.getElem?_eq_some_iff.mp hsb1).1; omega
              have hnx : (pq a x y N1 K1 N2 K2) p e = some (256 * (ktg (gtg (rg a x N1)) K1 (p / 256) e - 1) + (ktg (gtg (rg a y N2)) K2 (p % 256) e - 1)) := by show nxQ _ _ p e = _; unfold nxQ; rw [if_pos ⟨hk1, hk2⟩]
              obtain ⟨ca, hca1, hca2⟩ := (hS1.2.2.2.2 sa _ hsaM hsa1).1
              obtain ⟨cb, hcb1, hcb2⟩ := (hS2.2.2.2.2 sb _ hsbM hsb1).1
              have hcal := (hM1.2.2.2.2.2.2.2 ca (List.mem_of_getElem? hca1)).1
              have hcbl := (hM2.2.2.2.2.2.2.2 cb (List.mem_of_getElem? hcb1)).1
              have hfq : ca ||| cb = pcd a x y N1 N2 (256 * (ktg (gtg (rg a x N1)) K1 (p / 256) e - 1) + (ktg (gtg (rg a y N2)) K2 (p % 256) e - 1)) := by show _ = pFn _ _ _; unfold pFn; rw [(pOk_step hH hpo he hnx).2.1, (pOk_step hH hpo he hnx).2.2, getD_of hca1, getD_of hcb1]
              have hfl : pcd a x y N1 N2 (256 * (ktg (gtg (rg a x N1)) K1 (p / 256) e - 1) + (ktg (gtg (rg a y N2)) K2 (p % 256) e - 1)) < 4096 := by rw [← hfq]; exact Nat.or_lt_two_pow (n := 12) hcal hcbl
              refine zU.eqL (L' := [some (zp 30), some (zi ((k + 1 : Nat) : Int)), some (zp 39), some (zp 45), some (zi (e : Int)), some (zi ((sa + 1 : Nat) : Int)), some (zi ((sb + 1 : Nat) : Int)), none]) (by rw [← hsa2, ← hsb2]) ?_
              refine zU_aload_n d_P_exploreFrom_98 rfl ?_
              refine zU_getR 15 d_P_exploreFrom_99 f_P_18 (by decide) rfl rfl rfl ?_
              refine zU_iload_n d_P_exploreFrom_102 rfl ?_
              refine zU_iload d_P_exploreFrom_103 rfl ?_
              refine zU_aload_n d_P_exploreFrom_105 rfl ?_
              refine zU_iload d_P_exploreFrom_106 rfl ?_
              refine zU_aload_n d_P_exploreFrom_108 rfl ?_
              refine zU_iload d_P_exploreFrom_109 rfl ?_
              refine zU_callSi [zp 39, zi ((sa + 1 : Nat) : Int), zp 45, zi ((sb + 1 : Nat) : Int)] d_P_exploreFrom_111 k_P_22 rfl (by decide) (Nat.le_of_ble_eq_true rfl) (fun l => m_P_pairCode l μ4 (j := 1) (i := 2) (s := sa) (t := sb) (c := ca) (d := cb) (by decide) (by decide) (by omega) (by omega) (by rw [hq4' (35 + 6 * 1) (by omega) (by omega) (by omega)]; exact hca2) (by rw [hq4' (35 + 6 * 2) (by omega) (by omega) (by omega)]; exact hcb2) hcal hcbl) (fun r111 μ111 h111 => ?_)
              obtain ⟨hμ111, hr111⟩ := h111
              replace hμ111 := hμ111.symm
              subst hμ111
              rw [hfq] at hr111
              subst hr111
              refine zU_callVi (p0 := 15) [zi ((k + 1 : Nat) : Int), zi (e : Int), zi (((pcd a x y N1 N2 (256 * (ktg (gtg (rg a x N1)) K1 (p / 256) e - 1) + (ktg (gtg (rg a y N2)) K2 (p % 256) e - 1)) : Nat) : Int))] d_P_exploreFrom_114 k_P_60 rfl (by decide) rfl rfl (by decide) (Nat.le_of_ble_eq_true rfl) (fun l => m_G_link l μ4 (L := (pMap (pcd a x y N1 N2) (gAt (pq a x y N1 K1 N2 K2) 0 (12 * k + e))).1) (ES := (pMap (pcd a x y N1 N2) (gAt (pq a x y N1 K1 N2 K2) 0 (12 * k + e))).2.1) (FB := (pMap (pcd a x y N1 N2) (gAt (pq a x y N1 K1 N2 K2) 0 (12 * k + e))).2.2) (f := k + 1) (e := e) (c := pcd a x y N1 N2 (256 * (ktg (gtg (rg a x N1)) K1 (p / 256) e - 1) + (ktg (gtg (rg a y N2)) K2 (p % 256) e - 1))) hG4 ⟨by omega, by simp only [pMap, List.length_map]; omega⟩ he hfl (fun q hq => by have := gAt_keys (pq a x y N1 K1 N2 K2) 0 (12 * k + e) q hq; omega)) (fun r114 μ114 h114 => ?_)
              have hl114 := pLinked he hG4 hp4 hnx (fun p' hp' hf => pInj hH (gAt_pOk hH _ p' hp') (pOk_step hH hpo he hnx).1 hf) h114.1
              have hr114 : 0 ≤ r114 ∧ r114 ≤ 200 := by rcases hl114 with ⟨j, h, h', -⟩ | ⟨h, -⟩ <;> omega
              refine zU_istore d_P_exploreFrom_117 (by decide) ?_
              refine zU.eqL (L' := [some (zp 30), some (zi ((k + 1 : Nat) : Int)), some (zp 39), some (zp 45), some (zi (e : Int)), some (zi ((sa + 1 : Nat) : Int)), some (zi ((sb + 1 : Nat) : Int)), some (zi (r114))]) rfl ?_
              refine zU_iload d_P_exploreFrom_119 rfl ?_
              refine zU_if_ne 126 d_P_exploreFrom_121 (by decide) (by omega) (fun h121 => ?_) (fun h121 => ?_)
              · obtain ⟨j2, hj2r, hj2l, hG114, hj2q, hj2o⟩ : ∃ j : Nat, r114 = ((j + 1 : Nat) : Int) ∧ j < 200 ∧ gRep (pMap (pcd a x y N1 N2) (gAt (pq a x y N1 K1 N2 K2) 0 (12 * k + (e + 1)))) μ114 ∧ (gAt (pq a x y N1 K1 N2 K2) 0 (12 * k + (e + 1))).1[j]? = some (256 * (ktg (gtg (rg a x N1)) K1 (p / 256) e - 1) + (ktg (gtg (rg a y N2)) K2 (p % 256) e - 1)) ∧ ∀ (i p' : Nat), i ≠ j → (gAt (pq a x y N1 K1 N2 K2) 0 (12 * k + (e + 1))).1[i]? = some p' → (gAt (pq a x y N1 K1 N2 K2) 0 (12 * k + e)).1[i]? = some p' := by
                  rcases hl114 with h | h
                  · exact h
                  · exact absurd h.1 h121
                refine zU.eqL (L' := [some (zp 30), some (zi ((k + 1 : Nat) : Int)), some (zp 39), some (zp 45), some (zi (e : Int)), some (zi ((sa + 1 : Nat) : Int)), some (zi ((sb + 1 : Nat) : Int)), some (zi ((j2 + 1 : Nat) : Int))]) (by rw [← hj2r]) ?_
                refine zU_aload_n d_P_exploreFrom_126 rfl ?_
                refine zU_getR 31 d_P_exploreFrom_127 f_P_9 (by decide) rfl rfl rfl ?_
                refine zU_iload d_P_exploreFrom_130 rfl ?_
                refine zU_iload d_P_exploreFrom_132 rfl ?_
                refine zU_iast d_P_exploreFrom_134 (by decide) rfl (by decide) (by omega) ?_
                refine zU.eqM (μ' := zup μ114 31 (j2 + 1) ((sa + 1 : Nat) : Int)) rfl ?_
                refine zU_aload_n d_P_exploreFrom_135 rfl ?_
                refine zU_getR 32 d_P_exploreFrom_136 f_P_15 (by decide) rfl rfl rfl ?_
                refine zU_iload d_P_exploreFrom_139 rfl ?_
                refine zU_iload d_P_exploreFrom_141 rfl ?_
                refine zU_iast d_P_exploreFrom_143 (by decide) rfl (by decide) (by omega) ?_
                refine zU.eqM (μ' := zup (zup μ114 31 (j2 + 1) ((sa + 1 : Nat) : Int)) 32 (j2 + 1) ((sb + 1 : Nat) : Int)) rfl ?_
                refine zU_iinc d_P_exploreFrom_144 rfl ?_
                refine zU.eqL (L' := [some (zp 30), some (zi ((k + 1 : Nat) : Int)), some (zp 39), some (zp 45), some (zi (((e + 1 : Nat) : Int))), some (zi ((sa + 1 : Nat) : Int)), some (zi ((sb + 1 : Nat) : Int)), some (zi ((j2 + 1 : Nat) : Int))]) (by first | rfl | exact congrArg (fun zz : Int => [some (zp 30), some (zi ((k + 1 : Nat) : Int)), some (zp 39), some (zp 45), some (zi zz), some (zi ((sa + 1 : Nat) : Int)), some (zi ((sb + 1 : Nat) : Int)), some (zi ((j2 + 1 : Nat) : Int))]) (show ((e : Int) + 1 : Int) = ((e + 1 : Nat) : Int) by omega)) ?_
                refine zU_goto 53 d_P_exploreFrom_147 (by decide) ?_
                refine zU.drop 5 (L' := [some (zp 30), some (zi ((k + 1 : Nat) : Int)), some (zp 39), some (zp 45), some (zi (((e + 1 : Nat) : Int))), none, some (zi ((sb + 1 : Nat) : Int)), some (zi ((j2 + 1 : Nat) : Int))]) rfl ?_
                refine zU.drop 6 (L' := [some (zp 30), some (zi ((k + 1 : Nat) : Int)), some (zp 39), some (zp 45), some (zi (((e + 1 : Nat) : Int))), none, none, some (zi ((j2 + 1 : Nat) : Int))]) rfl ?_
                refine zU.drop 7 (L' := [some (zp 30), some (zi ((k + 1 : Nat) : Int)), some (zp 39), some (zp 45), some (zi (((e + 1 : Nat) : Int))), none, none, none]) rfl ?_
                exact ih53 (d - 1) (by omega) (e + 1) _ (by omega) (gRep_congr hG114 (fun q h => by rw [zup_ne _ _ _ (by omega), zup_ne _ _ _ (by omega)])) (pRow_set hR4 hj2q hj2o (by rw [(pOk_step hH hpo he hnx).2.1]; exact hsa1) (by rw [(pOk_step hH hpo he hnx).2.2]; exact hsb1) (h114.2 31 (by decide) (by decide) (by decide) (by decide) (by decide) (by decide) (by decide)) (h114.2 32 (by decide) (by decide) (by decide) (by decide) (by decide) (by decide) (by decide))) (fun q q1 q2 q3 q4 q5 q6 q7 q8 q9 => by rw [zup_ne _ _ _ q9, zup_ne _ _ _ q8, h114.2 q q1 q2 q3 q4 q5 q6 q7]; exact hq4 q q1 q2 q3 q4 q5 q6 q7 q8 q9)
              · refine zU_iconst d_P_exploreFrom_124 ?_
                exact zU_ireturn d_P_exploreFrom_125 (Or.inr ⟨rfl, by omega⟩) (by decide) (by decide) (⟨_, rfl, Or.inr ⟨rfl, by rcases hl114 with ⟨j, h, -⟩ | h; { omega }; { exact h.2.1 }, (pMap (pcd a x y N1 N2) (gAt (pq a x y N1 K1 N2 K2) 0 (12 * k + e))).1, by rcases hl114 with ⟨j, h, -⟩ | h; { omega }; { rw [h.2.2]; exact hG4.1 }⟩, fun q h1 h2 h3 => by rw [h114.2 q (by omega) (by omega) (by omega) (by omega) (by omega) (by omega) (by omega)]; exact hq4' q h1 h2 h3⟩)
    exact hJ53 12 0 μ3 (by omega) hG3 hR3 (fun _ _ _ _ _ _ _ _ _ _ => rfl)
  refine zU_if_eq 38 d_P_exploreFrom_18 (by decide) (zBr _) (fun h18 => ?_) (fun h18 => ?_)
  · refine zU_iconst d_P_exploreFrom_38 ?_
    refine zU.eqS (st' := [zi (zB (pGoal a x y N1 N2 p)), zi ((k + 1 : Nat) : Int), zp 18]) (by unfold pGoal; rw [zB_zero.mp h18]; rfl) ?_
    exact hJ39 
  · refine zU_aload_n d_P_exploreFrom_21 rfl ?_
    refine zU_aload_n d_P_exploreFrom_22 rfl ?_
    refine zU_getR 32 d_P_exploreFrom_23 f_P_15 (by decide) rfl rfl rfl ?_
    refine zU_iload_n d_P_exploreFrom_26 rfl ?_
    refine zU_iald (v := ((t + 1 : Nat) : Int)) d_P_exploreFrom_27 (by decide) rfl (by decide) (by omega) (ht2) ?_
    refine zU_callVi (p0 := 45) [zi ((t + 1 : Nat) : Int)] d_P_exploreFrom_28 k_P_49 rfl (by decide) rfl rfl (by decide) (Nat.le_of_ble_eq_true rfl) (fun l => m_S_isMarked l μ (j := 2) (s := t) (by decide) (by omega) (by have := mDist_r hD2; omega)) (fun r28 μ28 h28 => ?_)
    obtain ⟨hμ28, hr28⟩ := h28
    replace hμ28 := hμ28.symm
    subst hμ28
    have he28 : decide (μ (37 + 6 * 2) (t + 1) = 0) = sG a (aMem a (some y)) (rg a y N2) (p % 256) := by by_cases h : μ (37 + 6 * 2) (t + 1) = 0; { rw [decide_eq_true h, hg2.mp h] }; { rw [decide_eq_false h]; cases hb : sG a (aMem a (some y)) (rg a y N2) (p % 256); { rfl }; { exact absurd (hg2.mpr hb) h } }
    rw [he28] at hr28
    subst hr28
    refine zU_if_eq 38 d_P_exploreFrom_31 (by decide) (zBr _) (fun h31 => ?_) (fun h31 => ?_)
    · refine zU_iconst d_P_exploreFrom_38 ?_
      refine zU.eqS (st' := [zi (zB (pGoal a x y N1 N2 p)), zi ((k + 1 : Nat) : Int), zp 18]) (by unfold pGoal; rw [zB_zero.mp h31, Bool.and_false]; rfl) ?_
      exact hJ39 
    · refine zU_iconst d_P_exploreFrom_34 ?_
      refine zU_goto 39 d_P_exploreFrom_35 (by decide) ?_
      refine zU.eqS (st' := [zi (zB (pGoal a x y N1 N2 p)), zi ((k + 1 : Nat) : Int), zp 18]) (by unfold pGoal; rw [zB_nz.mp h18, zB_nz.mp h31]; rfl) ?_
      exact hJ39 
