theorem cAut_only {a a' : aT} {i0 : Nat} {μ μ' : zM} (hc : cRep a μ) (hN : aN a' = aN a) (hD : aD a' = aD a) (hC : aC a' = aC a) (h1 : μ' 1 = μ 1) (hq : ∀ q, q ≠ 3 + 3 * i0 → q ≠ 4 + 3 * i0 → q ≠ 5 + 3 * i0 → μ' q = μ q)
    (he : ∀ i, i < aN a → i ≠ i0 → aS a' i = aS a i ∧ aP a' i = aP a i ∧ aI a' i = aI a i ∧ aM a' i = aM a i ∧ aF a' i = aF a i ∧ aE a' i = aE a i) (h0 : cAut a' i0 μ') : cRep a' μ' := by
  obtain ⟨c1, c2, c3, c4⟩ := hc
  refine ⟨by rw [h1, hN]; exact c1, by rw [h1, hD]; exact c2, by rw [h1, hD, hC]; exact c3, fun i hi => ?_⟩
  rw [hN] at hi
  by_cases hii : i = i0
  · subst hii; exact h0
  · obtain ⟨e0, e1, e2, e3, e4, e5⟩ := he i hi hii
    exact cAut_congr (c4 i hi) (hq _ (by omega) (by omega) (by omega)) (hq _ (by omega) (by omega) (by omega)) (hq _ (by omega) (by omega) (by omega)) e0 e1 e2 e3 e4 e5
theorem aH_edge {a : aT} {i s e : Nat} {t : Int} (hs : s < 6) (ht : 0 ≤ t) (e' : Nat) : aH (aEdge a i s e t) i e' = (aH a i e' || decide (e' = e)) := by
  by_cases h : e' = e
  · subst h
    simp only [decide_true, Bool.or_true]
    exact any_iff.mpr ⟨s, hs, by simp [aEdge, aE, ht]⟩
  · have : ∀ s', aE (aEdge a i s e t) i s' e' = aE a i s' e' := fun s' => by simp [aEdge, aE, h]
    simp [aH, this, h]
theorem cRep_edge {a : aT} {μ : zM} {i s e : Nat} {t : Int} (hc : cRep a μ) (hi : i < aN a) (hN : aN a ≤ 4) (hs : s < 6) (he : e < 12) (ht : 0 ≤ t) :
    cRep (aEdge a i s e t) (zup (zup (zup μ (5 + 3 * i) (12 * s + e) t) (4 + 3 * i) s (zor (μ (4 + 3 * i) s) (zshl 1 (e : Int)))) (3 + 3 * i) 5 (zor (μ (3 + 3 * i) 5) (zshl 1 (e : Int)))) := by
  have hA := hc.2.2.2 i hi
  have n1 : ¬ (3 + 3 * i = 4 + 3 * i) := by omega
  have n2 : ¬ (3 + 3 * i = 5 + 3 * i) := by omega
  have n3 : ¬ (4 + 3 * i = 3 + 3 * i) := by omega
  have n4 : ¬ (4 + 3 * i = 5 + 3 * i) := by omega
  have n5 : ¬ (5 + 3 * i = 3 + 3 * i) := by omega
  have n6 : ¬ (5 + 3 * i = 4 + 3 * i) := by omega
  refine cAut_only (i0 := i) hc rfl rfl rfl ?_ (fun q q1 q2 q3 => ?_) (fun j hj hji => ⟨rfl, rfl, rfl, rfl, rfl, by funext s' e'; simp [aEdge, aE, hji]⟩) ?_
  · rw [zup_ne _ _ _ (by omega), zup_ne _ _ _ (by omega), zup_ne _ _ _ (by omega)]
  · rw [zup_ne _ _ _ q1, zup_ne _ _ _ q2, zup_ne _ _ _ q3]
  · obtain ⟨a0, a1, a2, a3, a4, a5, a6⟩ := hA
    refine ⟨by simp [zup_at, n1, n2]; exact a0, by simp [zup_at, n1, n2]; exact a1, by simp [zup_at, n1, n2]; exact a2, by simp [zup_at, n1, n2]; exact a3, by simp [zup_at, n1, n2]; exact a4, ?_, fun s' hs' => ⟨?_, fun e' he' hp => ?_⟩⟩
    · simp only [zup_at, and_self, if_true]
      refine ⟨zor_r _ _, fun j hj => ?_⟩
      rw [zbt_or, a5.2 j hj, zb1 (by omega) (by omega), aH_edge hs ht]
    · simp only [zup_at, n3, n4, false_and, if_false]
      by_cases h : s' = s
      · subst h
        simp only [and_self, if_true]
        refine ⟨zor_r _ _, fun j hj => ?_⟩
        rw [zbt_or, (a6 s' hs').1.2 j hj, zb1 (by omega) (by omega)]
        by_cases hj2 : j = e
        · subst hj2; simp [aEdge, aE, ht]
        · have hE : aE (aEdge a i s' e t) i s' j = aE a i s' j := by simp [aEdge, aE, hj2]
          show (decide (0 ≤ aE a i s' j) || decide (j = e)) = decide (0 ≤ aE (aEdge a i s' e t) i s' j)
          rw [hE]
          simp [hj2]
      · simp only [h, and_false, if_false]
        refine ⟨(a6 s' hs').1.1, fun j hj => ?_⟩
        have hE : aE (aEdge a i s e t) i s' j = aE a i s' j := by simp [aEdge, aE, h]
        rw [(a6 s' hs').1.2 j hj]
        show decide (0 ≤ aE a i s' j) = decide (0 ≤ aE (aEdge a i s e t) i s' j)
        rw [hE]
    · simp only [zup_at, n5, n6, false_and, if_false, true_and]
      by_cases h : s' = s ∧ e' = e
      · obtain ⟨rfl, rfl⟩ := h
        simp [aEdge, aE]
      · have hidx : ¬ (12 * s' + e' = 12 * s + e) := by omega
        have hE : aE (aEdge a i s e t) i s' e' = aE a i s' e' := by simp [aEdge, aE, h]
        rw [hE] at hp ⊢
        simp only [hidx, if_false]
        exact (a6 s' hs').2 e' he' hp
theorem aOk_edge {a : aT} {i s e : Nat} {t : Int} (ha : aOk a) (hi : i < aN a) (hs : s < aS a i) (ht : 0 ≤ t ∧ t < aS a i) (hd : aD a e = true) : aOk (aEdge a i s e t) := by
  refine ⟨ha.1, fun j hj => ?_⟩
  have hj' : j < aN a := hj
  obtain ⟨h1, h2, h3⟩ := ha.2 j hj'
  refine ⟨h1, h2, fun s' e' hs' he' => ?_⟩
  by_cases h : j = i ∧ s' = s ∧ e' = e
  · obtain ⟨rfl, rfl, rfl⟩ := h
    have : aE (aEdge a j s' e' t) j s' e' = t := by simp [aEdge, aE]
    rw [this]
    refine ⟨⟨by omega, ht.2⟩, fun h => ?_, fun _ => hd⟩
    have : aS a j ≤ s' := h
    omega
  · have : aE (aEdge a i s e t) j s' e' = aE a j s' e' := by simp [aEdge, aE, h]
    rw [this]
    exact h3 s' e' hs' he'
theorem cRep_ini {a : aT} {μ : zM} {i : Nat} {v : Int} (hc : cRep a μ) (hi : i < aN a) : cRep (aIni a i v) (zup μ (3 + 3 * i) 2 v) := by
  have hA := hc.2.2.2 i hi
  have n3 : ¬ (4 + 3 * i = 3 + 3 * i) := by omega
  have n5 : ¬ (5 + 3 * i = 3 + 3 * i) := by omega
  refine cAut_only (i0 := i) hc rfl rfl rfl (zup_ne _ _ _ (by omega)) (fun q q1 _ _ => zup_ne _ _ _ q1) (fun j hj hji => ⟨rfl, rfl, by simp [aIni, aI, hji], rfl, rfl, rfl⟩) ?_
  obtain ⟨a0, a1, a2, a3, a4, a5, a6⟩ := hA
  have f1 : zup μ (3 + 3 * i) 2 v (4 + 3 * i) = μ (4 + 3 * i) := zup_ne _ _ _ n3
  have f2 : zup μ (3 + 3 * i) 2 v (5 + 3 * i) = μ (5 + 3 * i) := zup_ne _ _ _ n5
  unfold cAut
  rw [f1, f2]
  exact ⟨by simp [zup_at]; exact a0, by simp [zup_at]; exact a1, by simp [zup_at, aIni, aI], by simp [zup_at]; exact a3, by simp [zup_at]; exact a4, by simp [zup_at]; exact a5, a6⟩
theorem cRep_mrk {a : aT} {μ : zM} {i s : Nat} {x : Int} {b : Bool} (hc : cRep a μ) (hi : i < aN a) (hx : -2147483648 ≤ x ∧ x ≤ 2147483647) (hb : ∀ j, j < 32 → zbt x j = if j = s then b else zbt (μ (3 + 3 * i) 3) j) : cRep (aMrk a i s b) (zup μ (3 + 3 * i) 3 x) := by
  have hA := hc.2.2.2 i hi
  refine cAut_only (i0 := i) hc rfl rfl rfl (zup_ne _ _ _ (by omega)) (fun q q1 _ _ => zup_ne _ _ _ q1) (fun j hj hji => ⟨rfl, rfl, rfl, by funext s'; simp [aMrk, aM, hji], rfl, rfl⟩) ?_
  obtain ⟨a0, a1, a2, a3, a4, a5, a6⟩ := hA
  have f1 : zup μ (3 + 3 * i) 3 x (4 + 3 * i) = μ (4 + 3 * i) := zup_ne _ _ _ (by omega)
  have f2 : zup μ (3 + 3 * i) 3 x (5 + 3 * i) = μ (5 + 3 * i) := zup_ne _ _ _ (by omega)
  unfold cAut
  rw [f1, f2]
  refine ⟨by simp [zup_at]; exact a0, by simp [zup_at]; exact a1, by simp [zup_at]; exact a2, ?_, by simp [zup_at]; exact a4, by simp [zup_at]; exact a5, a6⟩
  simp only [zup_at, and_self, if_true]
  refine ⟨hx, fun j hj => ?_⟩
  rw [hb j (by omega), a3.2 j hj]
  by_cases h : j = s <;> simp [aMrk, aM, h]
theorem cRep_fbd {a : aT} {μ : zM} {i s : Nat} {x : Int} {b : Bool} (hc : cRep a μ) (hi : i < aN a) (hx : -2147483648 ≤ x ∧ x ≤ 2147483647) (hb : ∀ j, j < 32 → zbt x j = if j = s then b else zbt (μ (3 + 3 * i) 4) j) : cRep (aFbd a i s b) (zup μ (3 + 3 * i) 4 x) := by
  have hA := hc.2.2.2 i hi
  refine cAut_only (i0 := i) hc rfl rfl rfl (zup_ne _ _ _ (by omega)) (fun q q1 _ _ => zup_ne _ _ _ q1) (fun j hj hji => ⟨rfl, rfl, rfl, rfl, by funext s'; simp [aFbd, aF, hji], rfl⟩) ?_
  obtain ⟨a0, a1, a2, a3, a4, a5, a6⟩ := hA
  have f1 : zup μ (3 + 3 * i) 4 x (4 + 3 * i) = μ (4 + 3 * i) := zup_ne _ _ _ (by omega)
  have f2 : zup μ (3 + 3 * i) 4 x (5 + 3 * i) = μ (5 + 3 * i) := zup_ne _ _ _ (by omega)
  unfold cAut
  rw [f1, f2]
  refine ⟨by simp [zup_at]; exact a0, by simp [zup_at]; exact a1, by simp [zup_at]; exact a2, by simp [zup_at]; exact a3, ?_, by simp [zup_at]; exact a5, a6⟩
  simp only [zup_at, and_self, if_true]
  refine ⟨hx, fun j hj => ?_⟩
  rw [hb j (by omega), a4.2 j hj]
  by_cases h : j = s <;> simp [aFbd, aF, h]
theorem aOk_tell {a : aT} {i s w : Nat} {on : Bool} (ha : aOk a) (hi : i < aN a) (hs : s < aS a i) : aOk (aTell a i s w on) := by
  have hI : ∀ v : Int, -1 ≤ v → v < aS a i → aOk (aIni a i v) := by
    intro v h1 h2
    refine ⟨ha.1, fun j hj => ?_⟩
    obtain ⟨g1, g2, g3⟩ := ha.2 j hj
    refine ⟨g1, ?_, g3⟩
    by_cases h : j = i
    · subst h
      have : aI (aIni a j v) j = v := by simp [aIni, aI]
      rw [this]
      exact ⟨h1, h2⟩
    · have : aI (aIni a i v) j = aI a j := by simp [aIni, aI, h]
      rw [this]
      exact g2
  unfold aTell
  split
  · split
    · exact hI _ (by omega) (by omega)
    · split
      · exact hI _ (by omega) (by have := (ha.2 i hi).1; omega)
      · exact ha
  · split
    · exact ha
    · exact ha
theorem cRep_decl {a : aT} {μ : zM} {e : Nat} {b : Bool} {x y : Int} (hc : cRep a μ) (hx : -2147483648 ≤ x ∧ x ≤ 2147483647) (hbx : ∀ j, j < 12 → zbt x j = (aD a j || decide (j = e))) (hy : -2147483648 ≤ y ∧ y ≤ 2147483647) (hby : ∀ j, j < 12 → zbt y j = if j = e then b else (aD a j && aC a j)) {μ' : zM} (h1 : μ' 1 1 = μ 1 1) (h2 : μ' 1 2 = x) (h3 : μ' 1 3 = y) (hq : ∀ q, q ≠ 1 → μ' q = μ q) : cRep (aDecl a e b) μ' := by
  obtain ⟨c1, c2, c3, c4⟩ := hc
  have m2 : zmask 12 (μ' 1 2) (aD (aDecl a e b)) := by
    rw [h2]
    refine ⟨hx, fun j hj => ?_⟩
    rw [hbx j hj]
    by_cases h : j = e <;> simp [aDecl, aD, h]
  have m3 : zmask 12 (μ' 1 3) (fun j => aD (aDecl a e b) j && aC (aDecl a e b) j) := by
    rw [h3]
    refine ⟨hy, fun j hj => ?_⟩
    rw [hby j hj]
    by_cases h : j = e <;> simp [aDecl, aD, aC, h]
  exact ⟨by rw [h1]; exact c1, m2, m3, fun i hi => cAut_congr (c4 i hi) (hq _ (by omega)) (hq _ (by omega)) (hq _ (by omega)) rfl rfl rfl rfl rfl rfl⟩
theorem aOk_decl {a : aT} {e : Nat} {b : Bool} (ha : aOk a) : aOk (aDecl a e b) := by
  refine ⟨ha.1, fun j hj => ?_⟩
  obtain ⟨g1, g2, g3⟩ := ha.2 j hj
  refine ⟨g1, g2, fun s e' hs he => ⟨(g3 s e' hs he).1, (g3 s e' hs he).2.1, fun h => ?_⟩⟩
  have := (g3 s e' hs he).2.2 h
  simp only [aDecl, aD] at this ⊢
  split
  · rfl
  · exact this
set_option maxRecDepth 100000 in
set_option maxHeartbeats 4000000 in
theorem m_M_addEdge (l : Launch) (μ : zM) {a : aT} (ha : aOk a) (hc : cRep a μ) {i s e : Nat} {t : Int} (hi : i < aN a) (hs : s < 6) (he : e < 12) (ht : 0 ≤ t) :
    zC l y_M_addEdge b_M_addEdge 4 none [] 0 0 0 false [zp (3 + 3 * i), zi (s : Int), zi (e : Int), zi t] μ (zRv (fun μ' => cRep (aEdge a i s e t) μ' ∧ ∀ q, q ≠ 3 + 3 * i → q ≠ 4 + 3 * i → q ≠ 5 + 3 * i → μ' q = μ q)) := by
  refine zC.of (own := n_M) (L := [some (zp (3 + 3 * i)), some (zi (s : Int)), some (zi (e : Int)), some (zi t)]) (by decide) rfl (by simp [zcat]) (Nat.le_of_ble_eq_true rfl) rfl (fun Γ => ?_)
  obtain ⟨hN, hD, hCt, hA⟩ := id hc
  have hN4 := ha.1
  have h_i : i < 4 := by omega
  have n1 : ¬ (4 + 3 * i = 5 + 3 * i) := by omega
  have n2 : ¬ (3 + 3 * i = 5 + 3 * i) := by omega
  have n3 : ¬ (3 + 3 * i = 4 + 3 * i) := by omega
  refine zU_aload_n d_M_addEdge_0 rfl ?_
  refine zU_getR (5 + 3 * i) d_M_addEdge_1 f_M_15 (zMl h_i) (zMk h_i) rfl (zMr2 h_i) ?_
  refine zU_iload_n d_M_addEdge_4 rfl ?_
  refine zU_bipush d_M_addEdge_5 (by decide) ?_
  refine zU_imul d_M_addEdge_7 ?_
  refine zU_iload_n d_M_addEdge_8 rfl ?_
  refine zU_iadd d_M_addEdge_9 ?_
  refine zU_iload_n d_M_addEdge_10 rfl ?_
  refine zU_iast d_M_addEdge_11 (zMl2 h_i) (zMk2 h_i) (by decide) (by omega) ?_
  refine zU.eqM (μ' := zup μ (5 + 3 * i) (12 * s + e) t) (by congr 1; omega) ?_
  refine zU_aload_n d_M_addEdge_12 rfl ?_
  refine zU_getR (4 + 3 * i) d_M_addEdge_13 f_M_9 (zMl h_i) (zMk h_i) rfl (zMr1 h_i) ?_
  refine zU_iload_n d_M_addEdge_16 rfl ?_
  refine zU_dup2 d_M_addEdge_17 rfl rfl ?_
  refine zU_iald (v := μ (4 + 3 * i) s) d_M_addEdge_18 (zMl1 h_i) (zMk1 h_i) (by decide) (by omega) (by simp [zup_at, n1]) ?_
  refine zU_iconst d_M_addEdge_19 ?_
  refine zU_iload_n d_M_addEdge_20 rfl ?_
  refine zU_ishl d_M_addEdge_21 ?_
  refine zU_ior d_M_addEdge_22 ?_
  refine zU_iast d_M_addEdge_23 (zMl1 h_i) (zMk1 h_i) (by decide) (by omega) ?_
  refine zU.eqM (μ' := zup (zup μ (5 + 3 * i) (12 * s + e) t) (4 + 3 * i) s (zor (μ (4 + 3 * i) s) (zshl 1 (e : Int)))) rfl ?_
  refine zU_aload_n d_M_addEdge_24 rfl ?_
  refine zU_dup d_M_addEdge_25 rfl ?_
  refine zU_getI (v := μ (3 + 3 * i) 5) d_M_addEdge_26 f_M_34 (zMl h_i) (zMk h_i) rfl (by simp [zup_at, n2, n3]) ?_
  refine zU_iconst d_M_addEdge_29 ?_
  refine zU_iload_n d_M_addEdge_30 rfl ?_
  refine zU_ishl d_M_addEdge_31 ?_
  refine zU_ior d_M_addEdge_32 ?_
  refine zU_putI d_M_addEdge_33 f_M_34 p_M_events (zMl h_i) (zMk h_i) rfl (Or.inl rfl) ?_
  exact zU_return d_M_addEdge_36 rfl (by decide) (by decide) (⟨rfl, cRep_edge hc hi hN4 hs he ht, fun q q1 q2 q3 => by rw [zup_ne _ _ _ q1, zup_ne _ _ _ q2, zup_ne _ _ _ q3]⟩)
set_option maxRecDepth 100000 in
set_option maxHeartbeats 4000000 in
theorem m_M_changeInitial (l : Launch) (μ : zM) {a : aT} (ha : aOk a) (hc : cRep a μ) {i s : Nat} {on : Bool} (hi : i < aN a) (hs : s < 6) :
    zC l y_M_changeInitial b_M_changeInitial 3 none [] 0 0 0 false [zp (3 + 3 * i), zi (s : Int), zi (zB on)] μ (zRv (fun μ' => cRep (aTell a i s 0 on) μ' ∧ ∀ q, q ≠ 3 + 3 * i → μ' q = μ q)) := by
  refine zC.of (own := n_M) (L := [some (zp (3 + 3 * i)), some (zi (s : Int)), some (zi (zB on))]) (by decide) rfl (by simp [zcat]) (Nat.le_of_ble_eq_true rfl) rfl (fun Γ => ?_)
  obtain ⟨hN, hD, hCt, hA⟩ := id hc
  have hN4 := ha.1
  have h_i : i < 4 := by omega
  refine zU_iload_n d_M_changeInitial_0 rfl ?_
  refine zU_if_eq 12 d_M_changeInitial_1 (by decide) (zBr _) (fun h1 => ?_) (fun h1 => ?_)
  · refine zU_aload_n d_M_changeInitial_12 rfl ?_
    refine zU_getI (v := aI a i) d_M_changeInitial_13 f_M_25 (zMl h_i) (zMk h_i) rfl ((hA i hi).2.2.1) ?_
    refine zU_iload_n d_M_changeInitial_16 rfl ?_
    refine zU_icmp_ne 25 d_M_changeInitial_17 (by decide) (by first | omega | (have := (ha.2 i hi).1; have := (ha.2 i hi).2.1; omega)) (by first | omega | (have := (ha.2 i hi).1; have := (ha.2 i hi).2.1; omega)) (fun h17 => ?_) (fun h17 => ?_)
    · exact zU_return d_M_changeInitial_25 rfl (by decide) (by decide) (⟨rfl, by have h := zB_zero.mp h1; unfold aTell; simp only [h, if_true, if_neg h17]; exact hc, fun q _ => rfl⟩)
    · refine zU_aload_n d_M_changeInitial_20 rfl ?_
      refine zU_iconst d_M_changeInitial_21 ?_
      refine zU_putI d_M_changeInitial_22 f_M_25 p_M_initial (zMl h_i) (zMk h_i) rfl (Or.inl rfl) ?_
      exact zU_return d_M_changeInitial_25 rfl (by decide) (by decide) (⟨rfl, by have h := zB_zero.mp h1; unfold aTell; simp only [h, if_true, if_pos h17]; exact cRep_ini hc hi, fun q hq => zup_ne _ _ _ hq⟩)
  · refine zU_aload_n d_M_changeInitial_4 rfl ?_
    refine zU_iload_n d_M_changeInitial_5 rfl ?_
    refine zU_putI d_M_changeInitial_6 f_M_25 p_M_initial (zMl h_i) (zMk h_i) rfl (Or.inl rfl) ?_
    refine zU_goto 25 d_M_changeInitial_9 (by decide) ?_
    exact zU_return d_M_changeInitial_25 rfl (by decide) (by decide) (⟨rfl, by have h := zB_nz.mp h1; unfold aTell; simp only [h, if_true]; exact cRep_ini hc hi, fun q hq => zup_ne _ _ _ hq⟩)
set_option maxRecDepth 100000 in
set_option maxHeartbeats 4000000 in
theorem m_M_change (l : Launch) (μ : zM) {a : aT} (ha : aOk a) (hc : cRep a μ) {i s w : Nat} {on : Bool} (hi : i < aN a) (hs : s < 6) (hw : w < 3) :
    zC l y_M_change b_M_change 4 none [] 1 0 22 false [zp (3 + 3 * i), zi (s : Int), zi (w : Int), zi (zB on)] μ (zRv (fun μ' => cRep (aTell a i s w on) μ' ∧ ∀ q, q ≠ 3 + 3 * i → μ' q = μ q)) := by
  refine zC.of (own := n_M) (L := [some (zp (3 + 3 * i)), some (zi (s : Int)), some (zi (w : Int)), some (zi (zB on))]) (by decide) rfl (by simp [zcat]) (Nat.le_of_ble_eq_true rfl) rfl (fun Γ => ?_)
  obtain ⟨hN, hD, hCt, hA⟩ := id hc
  have hN4 := ha.1
  have h_i : i < 4 := by omega
  refine zU_iload_n d_M_change_0 rfl ?_
  refine zU_if_ne 13 d_M_change_1 (by decide) (by omega) (fun h1 => ?_) (fun h1 => ?_)
  · refine zU_iload_n d_M_change_13 rfl ?_
    refine zU_iconst d_M_change_14 ?_
    refine zU_icmp_ne 34 d_M_change_15 (by decide) (by omega) (by omega) (fun h15 => ?_) (fun h15 => ?_)
    · refine zU_aload_n d_M_change_34 rfl ?_
      refine zU_aload_n d_M_change_35 rfl ?_
      refine zU_getI (v := μ (3 + 3 * i) 4) d_M_change_36 f_M_31 (zMl h_i) (zMk h_i) rfl (rfl) ?_
      refine zU_iload_n d_M_change_39 rfl ?_
      refine zU_iload_n d_M_change_40 rfl ?_
      refine zU_callSi [zi (μ (3 + 3 * i) 4), zi (s : Int), zi (zB on)] d_M_change_41 k_M_45 rfl (by decide) (Nat.le_of_ble_eq_true rfl) (fun l => m_M_withBit l μ (x := μ (3 + 3 * i) 4) (i := s) (on := zB on) (by omega) (zB_or _)) (fun r41 μ41 h41 => ?_)
      obtain ⟨hμ41, hr41, hb41⟩ := h41
      replace hμ41 := hμ41.symm
      subst hμ41
      refine zU_putI d_M_change_44 f_M_31 p_M_forbiddenStates (zMl h_i) (zMk h_i) rfl (Or.inl rfl) ?_
      exact zU_return d_M_change_47 rfl (by decide) (by decide) (⟨rfl, by have h2 : ¬ w = 0 := (by omega); have h3 : ¬ w = 1 := (by omega); unfold aTell; rw [if_neg h2, if_neg h3]; exact cRep_fbd hc hi hr41 (fun j hj => by rw [hb41 j hj]; cases on <;> simp [zB]), fun q hq => zup_ne _ _ _ hq⟩)
    · refine zU_aload_n d_M_change_18 rfl ?_
      refine zU_aload_n d_M_change_19 rfl ?_
      refine zU_getI (v := μ (3 + 3 * i) 3) d_M_change_20 f_M_28 (zMl h_i) (zMk h_i) rfl (rfl) ?_
      refine zU_iload_n d_M_change_23 rfl ?_
      refine zU_iload_n d_M_change_24 rfl ?_
      refine zU_callSi [zi (μ (3 + 3 * i) 3), zi (s : Int), zi (zB on)] d_M_change_25 k_M_45 rfl (by decide) (Nat.le_of_ble_eq_true rfl) (fun l => m_M_withBit l μ (x := μ (3 + 3 * i) 3) (i := s) (on := zB on) (by omega) (zB_or _)) (fun r25 μ25 h25 => ?_)
      obtain ⟨hμ25, hr25, hb25⟩ := h25
      replace hμ25 := hμ25.symm
      subst hμ25
      refine zU_putI d_M_change_28 f_M_28 p_M_markedStates (zMl h_i) (zMk h_i) rfl (Or.inl rfl) ?_
      refine zU_goto 47 d_M_change_31 (by decide) ?_
      exact zU_return d_M_change_47 rfl (by decide) (by decide) (⟨rfl, by have h2 : ¬ w = 0 := (by omega); have h3 : w = 1 := (by omega); unfold aTell; rw [if_neg h2, if_pos h3]; exact cRep_mrk hc hi hr25 (fun j hj => by rw [hb25 j hj]; cases on <;> simp [zB]), fun q hq => zup_ne _ _ _ hq⟩)
  · refine zU_aload_n d_M_change_4 rfl ?_
    refine zU_iload_n d_M_change_5 rfl ?_
    refine zU_iload_n d_M_change_6 rfl ?_
    refine zU_callVv (p0 := (3 + 3 * i)) [zi (s : Int), zi (zB on)] d_M_change_7 k_M_41 rfl (zMl h_i) (zMk h_i) rfl (by decide) (Nat.le_of_ble_eq_true rfl) (fun l => m_M_changeInitial l μ ha hc hi hs) (fun μ7 h7 => ?_)
    have hw0 : w = 0 := by omega
    subst hw0
    refine zU_goto 47 d_M_change_10 (by decide) ?_
    exact zU_return d_M_change_47 rfl (by decide) (by decide) (⟨rfl, h7.1, h7.2⟩)
set_option maxRecDepth 100000 in
set_option maxHeartbeats 4000000 in
theorem m_A_declare (l : Launch) (μ : zM) {a : aT} (ha : aOk a) (hc : cRep a μ) {e : Nat} {on : Bool} (he : e < 12) (hd : aD a e = false) :
    zC l y_A_declare b_A_declare 3 none [] 0 0 0 false [zp 1, zi (e : Int), zi (zB on)] μ (zRv (fun μ' => cRep (aDecl a e on) μ' ∧ ∀ q, q ≠ 1 → μ' q = μ q)) := by
  refine zC.of (own := n_A) (L := [some (zp 1), some (zi (e : Int)), some (zi (zB on))]) (by decide) rfl (by simp [zcat]) (Nat.le_of_ble_eq_true rfl) rfl (fun Γ => ?_)
  obtain ⟨hN, hD, hCt, hA⟩ := id hc
  have hN4 := ha.1
  refine zU_aload_n d_A_declare_0 rfl ?_
  refine zU_dup d_A_declare_1 rfl ?_
  refine zU_getI (v := μ 1 2) d_A_declare_2 f_A_26 (by decide) rfl rfl (rfl) ?_
  refine zU_iconst d_A_declare_5 ?_
  refine zU_iload_n d_A_declare_6 rfl ?_
  refine zU_ishl d_A_declare_7 ?_
  refine zU_ior d_A_declare_8 ?_
  refine zU_putI d_A_declare_9 f_A_26 p_A_declaredEvents (by decide) rfl rfl (Or.inl rfl) ?_
  refine zU_iload_n d_A_declare_12 rfl ?_
  refine zU_if_eq 28 d_A_declare_13 (by decide) (zBr _) (fun h13 => ?_) (fun h13 => ?_)
  · exact zU_return d_A_declare_28 rfl (by decide) (by decide) (⟨rfl, cRep_decl (b := on) hc (x := zor (μ 1 2) (zshl 1 (e : Int))) (y := μ 1 3) (zor_r _ _) (fun j hj => by rw [zbt_or, hD.2 j hj, zb1 (by omega) (by omega)]) hCt.1 (fun j hj => by rw [hCt.2 j hj]; by_cases h : j = e <;> simp [h, hd, zB_zero.mp h13]) (by simp [zup_at]) (by simp [zup_at]) (by simp [zup_at]) (fun q hq => zup_ne _ _ _ hq), fun q hq => zup_ne _ _ _ hq⟩)
  · refine zU_aload_n d_A_declare_16 rfl ?_
    refine zU_dup d_A_declare_17 rfl ?_
    refine zU_getI (v := μ 1 3) d_A_declare_18 f_A_29 (by decide) rfl rfl (by simp [zup_at]) ?_
    refine zU_iconst d_A_declare_21 ?_
    refine zU_iload_n d_A_declare_22 rfl ?_
    refine zU_ishl d_A_declare_23 ?_
    refine zU_ior d_A_declare_24 ?_
    refine zU_putI d_A_declare_25 f_A_29 p_A_controllableEvents (by decide) rfl rfl (Or.inl rfl) ?_
    exact zU_return d_A_declare_28 rfl (by decide) (by decide) (⟨rfl, cRep_decl (b := on) hc (x := zor (μ 1 2) (zshl 1 (e : Int))) (y := zor (μ 1 3) (zshl 1 (e : Int))) (zor_r _ _) (fun j hj => by rw [zbt_or, hD.2 j hj, zb1 (by omega) (by omega)]) (zor_r _ _) (fun j hj => by rw [zbt_or, hCt.2 j hj, zb1 (by omega) (by omega)]; by_cases h : j = e <;> simp [h, zB_nz.mp h13]) (by simp [zup_at]) (by simp [zup_at]) (by simp [zup_at]) (fun q hq => by rw [zup_ne _ _ _ hq, zup_ne _ _ _ hq]), fun q hq => by rw [zup_ne _ _ _ hq, zup_ne _ _ _ hq]⟩)
set_option maxRecDepth 100000 in
set_option maxHeartbeats 4000000 in
theorem m_A_removeAll (l : Launch) (μ : zM) {a : aT} :
    zC l y_A_removeAll b_A_removeAll 1 none [] 0 0 0 false [zp 1] μ (zRv (fun μ' => cRep (aClr a) μ' ∧ ∀ q, q ≠ 1 → μ' q = μ q)) := by
  refine zC.of (own := n_A) (L := [some (zp 1)]) (by decide) rfl (by simp [zcat]) (Nat.le_of_ble_eq_true rfl) rfl (fun Γ => ?_)
  refine zU_aload_n d_A_removeAll_0 rfl ?_
  refine zU_iconst d_A_removeAll_1 ?_
  refine zU_putI d_A_removeAll_2 f_A_18 p_A_count (by decide) rfl rfl (Or.inl rfl) ?_
  refine zU_aload_n d_A_removeAll_5 rfl ?_
  refine zU_iconst d_A_removeAll_6 ?_
  refine zU_putI d_A_removeAll_7 f_A_26 p_A_declaredEvents (by decide) rfl rfl (Or.inl rfl) ?_
  refine zU_aload_n d_A_removeAll_10 rfl ?_
  refine zU_iconst d_A_removeAll_11 ?_
  refine zU_putI d_A_removeAll_12 f_A_29 p_A_controllableEvents (by decide) rfl rfl (Or.inl rfl) ?_
  exact zU_return d_A_removeAll_15 rfl (by decide) (by decide) (⟨rfl, ⟨by simp [zup_at, aClr, aN], by simp [zup_at]; exact zmask_zero (fun _ _ => rfl), by simp [zup_at]; exact zmask_zero (fun _ _ => rfl), fun i hi => absurd hi (by simp [aClr, aN])⟩, fun q hq => by rw [zup_ne _ _ _ hq, zup_ne _ _ _ hq, zup_ne _ _ _ hq]⟩)
