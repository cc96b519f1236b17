def aConf (a : aT) (x y t r : Int) : Prop := (t = 0 ∧ ∃ i j : Nat, x = (i : Int) ∧ y = (j : Int) ∧ (i < aN a ∧ aP a i = false) ∧ (j < aN a ∧ aP a j = false) ∧ rConf a i j r) ∨ (t = 1 ∧ ¬ ((0 ≤ x ∧ x < aN a ∧ aP a x.toNat = false) ∧ 0 ≤ y ∧ y < aN a ∧ aP a y.toNat = false))
theorem rGr_row {a : aT} {mem : Nat → Bool} {w w' N : Nat} {μ μ' : zM} (h : rGr a mem w N μ) (hN : N ≤ 200) (hw : w ≠ w') (hf : rFr w' μ μ') : rGr a mem w N μ' := rGr_fr h hN (fun q x _ _ hx => hf q x (by unfold rIn at hx ⊢; omega))
theorem rBd_row {w w' N : Nat} {K : Nat → Bool} {μ μ' : zM} (h : rBd w N K μ) (hN : N ≤ 200) (hw : w ≠ w') (hf : rFr w' μ μ') : rBd w N K μ' := rBd_fr h hN (fun x hx => hf 65 x (by unfold rIn at hx ⊢; omega))
theorem rWor_row {a : aT} {v : vT} {w : Nat} {μ μ' : zM} (h : rWor a v μ) (hw : w ≠ 0) (hf : rFr w μ μ') : rWor a v μ' :=
  rWor_fr h (fun x _ => by rw [rFr_q hf (by omega)]) (fun q h1 h2 => rFr_q hf (by omega)) (fun q x _ _ hx => hf q x (by unfold rIn at hx ⊢; omega)) (rFr_q hf (by omega)) (rFr_q hf (by omega)) (rFr_q hf (by omega))
theorem rPr_step {f1 f2 : Nat → Nat → Nat} {k e p : Nat} {μ μ' : zM} {r : Int} (he : e < 12) (hp : (gAt (nxQ f1 f2) 0 (12 * k)).1[k]? = some p) (h1 : f1 (p / 256) e ≠ 0) (h2 : f2 (p % 256) e ≠ 0) (hy : f2 (p % 256) e ≤ 200) (hP : rPr (gAt (nxQ f1 f2) 0 (12 * k + e)).1 μ)
    (h : (∃ k' : Nat, (gAt (nxQ f1 f2) 0 (12 * k + e)).1[k']? = some (256 * (f1 (p / 256) e - 1) + (f2 (p % 256) e - 1)) ∧ r = (k' : Int) ∧ μ' = μ) ∨ (256 * (f1 (p / 256) e - 1) + (f2 (p % 256) e - 1) ∉ (gAt (nxQ f1 f2) 0 (12 * k + e)).1 ∧ (gAt (nxQ f1 f2) 0 (12 * k + e)).1.length = 200 ∧ r = -1 ∧ μ' = μ) ∨ (256 * (f1 (p / 256) e - 1) + (f2 (p % 256) e - 1) ∉ (gAt (nxQ f1 f2) 0 (12 * k + e)).1 ∧ (gAt (nxQ f1 f2) 0 (12 * k + e)).1.length < 200 ∧ r = ((gAt (nxQ f1 f2) 0 (12 * k + e)).1.length : Int) ∧ μ' = zup (zup (zup μ 74 (gAt (nxQ f1 f2) 0 (12 * k + e)).1.length ((f1 (p / 256) e - 1 : Nat) : Int)) 75 (gAt (nxQ f1 f2) 0 (12 * k + e)).1.length ((f2 (p % 256) e - 1 : Nat) : Int)) 51 29 (((gAt (nxQ f1 f2) 0 (12 * k + e)).1.length + 1 : Nat) : Int))) :
    ((0 ≤ r ∧ r ≤ 200 ∧ rPr (gAt (nxQ f1 f2) 0 (12 * k + (e + 1))).1 μ') ∨ (r = -1 ∧ gMany (nxQ f1 f2) 0)) ∧ (∀ q, q ≠ 51 → q ≠ 74 → q ≠ 75 → μ' q = μ q) ∧ ∀ x, x ≠ 29 → μ' 51 x = μ 51 x := by
  have hn := nxQ_some (p := p) h1 h2
  rcases h with ⟨j, a1, a2, a3⟩ | ⟨a1, a2, a3, a4⟩ | ⟨a1, a2, a3, a4⟩
  · have hl := (List.getElem?_eq_some_iff.mp a1).1
    have h9 := hP.2.1
    have := (rSt he hp (v := (j : Int)) (L' := (gAt (nxQ f1 f2) 0 (12 * k + e)).1) (Or.inr ⟨_, hn, Or.inl ⟨j, a1, rfl, rfl⟩⟩)).1
    rw [this, a3]
    exact ⟨Or.inl ⟨by omega, by omega, hP⟩, fun _ _ _ _ => rfl, fun _ _ => rfl⟩
  · have := (rSt he hp (v := ((gAt (nxQ f1 f2) 0 (12 * k + e)).1.length : Int)) (L' := (gAt (nxQ f1 f2) 0 (12 * k + e)).1 ++ [256 * (f1 (p / 256) e - 1) + (f2 (p % 256) e - 1)]) (Or.inr ⟨_, hn, Or.inr ⟨a1, rfl, rfl⟩⟩)).1
    refine ⟨Or.inr ⟨a3, ⟨12 * k + (e + 1), ?_⟩⟩, fun _ _ _ _ => by rw [a4], fun _ _ => by rw [a4]⟩
    rw [this]
    simp only [List.length_append, List.length_cons, List.length_nil]
    omega
  · have := (rSt he hp (v := ((gAt (nxQ f1 f2) 0 (12 * k + e)).1.length : Int)) (L' := (gAt (nxQ f1 f2) 0 (12 * k + e)).1 ++ [256 * (f1 (p / 256) e - 1) + (f2 (p % 256) e - 1)]) (Or.inr ⟨_, hn, Or.inr ⟨a1, rfl, rfl⟩⟩)).1
    rw [this, a4]
    exact ⟨Or.inl ⟨by omega, by omega, rPr_add hP a2 (by omega)⟩, fun q q1 q2 q3 => by rw [zup_ne _ _ _ q1, zup_ne _ _ _ q3, zup_ne _ _ _ q2], fun x hx => by rw [zup_at, if_neg (by omega), zup_ne _ _ _ (by decide), zup_ne _ _ _ (by decide)]⟩
theorem rPr_none {f1 f2 : Nat → Nat → Nat} {k e p : Nat} (he : e < 12) (hp : (gAt (nxQ f1 f2) 0 (12 * k)).1[k]? = some p) (h : f1 (p / 256) e = 0 ∨ f2 (p % 256) e = 0) : (gAt (nxQ f1 f2) 0 (12 * k + (e + 1))).1 = (gAt (nxQ f1 f2) 0 (12 * k + e)).1 :=
  (rSt he hp (v := -1) (L' := (gAt (nxQ f1 f2) 0 (12 * k + e)).1) (Or.inl ⟨nxQ_none h, rfl, rfl⟩)).1
set_option maxRecDepth 100000 in
set_option maxHeartbeats 4000000 in
theorem m_R_conflict (l : Launch) (μ : zM) {a : aT} {v : vT} (hW : rWor a v μ) {x y : Int} (hx : -2147483648 ≤ x ∧ x ≤ 2147483647) (hy : -2147483648 ≤ y ∧ y ≤ 2147483647) {t0 r0 : Int} (hC : aConf a x y t0 r0) :
    zC l y_R_conflict b_R_conflict 7 (some .int) [] 4 0 104 false [zp 51, zi x, zi y] μ (zRi (fun r μ' => μ' 51 0 = t0 ∧ (t0 = 0 → r = r0) ∧ rWor a v μ' ∧ ∀ q, (q < 51 ∨ q = 76) → μ' q = μ q)) := by
  refine zC.of (own := n_R) (L := [some (zp 51), some (zi x), some (zi y), none, none, none, none]) (by decide) rfl (by simp [zcat]) (Nat.le_of_ble_eq_true rfl) rfl (fun Γ => ?_)
  have ha := hW.1
  have hc := hW.2.1
  have hN4 := ha.1
  refine zU_aload_n d_R_conflict_0 rfl ?_
  refine zU_aload_n d_R_conflict_1 rfl ?_
  refine zU_iload_n d_R_conflict_2 rfl ?_
  refine zU_callVi (p0 := 51) [zi x] d_R_conflict_3 k_R_170 rfl (by decide) rfl rfl (by decide) (Nat.le_of_ble_eq_true rfl) (fun l => m_R_isRule l μ ha hc hx) (fun r3 μ3 h3 => ?_)
  obtain ⟨hμ3, rfl⟩ := h3
  replace hμ3 := hμ3.symm
  subst hμ3
  have hJ22 : zU Γ b_R_conflict n_R 7 (some .int) [] (zRm 4 0 104) 0 0 (zFin Γ 0 false (zRi (fun r μ' => μ' 51 0 = t0 ∧ (t0 = 0 → r = r0) ∧ rWor a v μ' ∧ ∀ q, (q < 51 ∨ q = 76) → μ' q = μ q))) true 0 μ 22 [some (zp 51), some (zi x), some (zi y), none, none, none, none] [zi (zB (!((decide (0 ≤ x ∧ x < (aN a : Int)) && !aP a x.toNat) && (decide (0 ≤ y ∧ y < (aN a : Int)) && !aP a y.toNat)))), zp 51] := by
    refine zU_iconst d_R_conflict_22 ?_
    refine zU_callVi (p0 := 51) [zi (zB (!((decide (0 ≤ x ∧ x < (aN a : Int)) && !aP a x.toNat) && (decide (0 ≤ y ∧ y < (aN a : Int)) && !aP a y.toNat)))), zi 0] d_R_conflict_23 k_R_101 rfl (by decide) rfl rfl (by decide) (Nat.le_of_ble_eq_true rfl) (fun l => m_R_throwing l μ (p := !((decide (0 ≤ x ∧ x < (aN a : Int)) && !aP a x.toNat) && (decide (0 ≤ y ∧ y < (aN a : Int)) && !aP a y.toNat))) (q := false)) (fun r23 μ23 h23 => ?_)
    obtain ⟨hr23, hμ23⟩ := h23
    subst hr23
    have hW3 : rWor a v μ23 := by rw [hμ23]; exact rWor_thr hW _
    have hq3 := thr_q hμ23
    have ht3 := thr_0 hμ23
    refine zU_if_eq 31 d_R_conflict_26 (by decide) (zBr _) (fun h26 => ?_) (fun h26 => ?_)
    · have b26 := zB_zero.mp h26
      have hRR : (decide (0 ≤ x ∧ x < (aN a : Int)) && !aP a x.toNat) = true ∧ (decide (0 ≤ y ∧ y < (aN a : Int)) && !aP a y.toNat) = true := by
        cases h1 : (decide (0 ≤ x ∧ x < (aN a : Int)) && !aP a x.toNat) <;> cases h2 : (decide (0 ≤ y ∧ y < (aN a : Int)) && !aP a y.toNat) <;> simp_all
      have hc0 : tcd (!((decide (0 ≤ x ∧ x < (aN a : Int)) && !aP a x.toNat) && (decide (0 ≤ y ∧ y < (aN a : Int)) && !aP a y.toNat))) false = 0 := by rw [hRR.1, hRR.2]; rfl
      have hx1 := (Bool.and_eq_true _ _ ▸ hRR.1 : _ ∧ _)
      have hy1 := (Bool.and_eq_true _ _ ▸ hRR.2 : _ ∧ _)
      have hx2 : 0 ≤ x ∧ x < (aN a : Int) := by simpa using hx1.1
      have hy2 : 0 ≤ y ∧ y < (aN a : Int) := by simpa using hy1.1
      have hx3 : aP a x.toNat = false := by simpa using hx1.2
      have hy3 : aP a y.toNat = false := by simpa using hy1.2
      obtain ⟨ht0, i, j, hxi, hyj, ⟨hi, hpi⟩, ⟨hj, hpj⟩, hCC⟩ : t0 = 0 ∧ ∃ i j : Nat, x = (i : Int) ∧ y = (j : Int) ∧ (i < aN a ∧ aP a i = false) ∧ (j < aN a ∧ aP a j = false) ∧ rConf a i j r0 := by
        rcases hC with h | h
        · exact h
        · exact absurd ⟨⟨hx2.1, hx2.2, hx3⟩, hy2.1, hy2.2, hy3⟩ h.2
      refine zU.eqL (L' := [some (zp 51), some (zi (i : Int)), some (zi y), none, none, none, none]) (congrArg (fun zz : Int => [some (zp 51), some (zi zz), some (zi y), none, none, none, none]) (show (x : Int) = (i : Int) from hxi)) ?_
      refine zU_aload_n d_R_conflict_31 rfl ?_
      refine zU.eqL (L' := [some (zp 51), some (zi (i : Int)), some (zi (j : Int)), none, none, none, none]) (congrArg (fun zz : Int => [some (zp 51), some (zi (i : Int)), some (zi zz), none, none, none, none]) (show (y : Int) = (j : Int) from hyj)) ?_
      refine zU_iconst d_R_conflict_32 ?_
      refine zU_iload_n d_R_conflict_33 rfl ?_
      refine zU_callVi (p0 := 51) [zi 1, zi (i : Int)] d_R_conflict_34 k_R_173 rfl (by decide) rfl rfl (by decide) (Nat.le_of_ble_eq_true rfl) (fun l => m_R_isThere l μ23 ha hW3.2.1 (x := i) hi (w := 1) (by omega)) (fun r34 μ34 h34 => ?_)
      obtain ⟨h34a, hF34⟩ := h34
      have hr34 : -2147483648 ≤ r34 ∧ r34 ≤ 2147483647 := by rcases h34a with h | h <;> omega
      have hW34 := rWor_row hW3 (by decide) hF34
      refine zU_if_eq 49 d_R_conflict_37 (by decide) (hr34) (fun h37 => ?_) (fun h37 => ?_)
      · refine zU_iconst d_R_conflict_49 ?_
        exact zU_ireturn d_R_conflict_50 (Or.inl rfl) (by decide) (by decide) (⟨_, rfl, by rw [rFr_q hF34 (by omega), ht3, hc0]; exact ht0.symm, fun _ => (conf_1 hCC (by rcases h34a with h | h; { exact h.2 }; { exfalso; omega })).symm, hW34, fun q hq => by rw [rFr_q hF34 (by omega)]; exact hq3 q hq⟩)
      · refine zU_aload_n d_R_conflict_40 rfl ?_
        refine zU_iconst d_R_conflict_41 ?_
        refine zU_iload_n d_R_conflict_42 rfl ?_
        refine zU_callVi (p0 := 51) [zi 2, zi (j : Int)] d_R_conflict_43 k_R_173 rfl (by decide) rfl rfl (by decide) (Nat.le_of_ble_eq_true rfl) (fun l => m_R_isThere l μ34 ha hW34.2.1 (x := j) hj (w := 2) (by omega)) (fun r43 μ43 h43 => ?_)
        obtain ⟨h43a, hF43⟩ := h43
        have hr43 : -2147483648 ≤ r43 ∧ r43 ≤ 2147483647 := by rcases h43a with h | h <;> omega
        have hW43 := rWor_row hW34 (by decide) hF43
        have h430 : μ43 51 0 = tcd (!((decide (0 ≤ x ∧ x < (aN a : Int)) && !aP a x.toNat) && (decide (0 ≤ y ∧ y < (aN a : Int)) && !aP a y.toNat))) false := by rw [rFr_q hF43 (by omega), rFr_q hF34 (by omega), ht3]
        have h43q : ∀ q, (q < 51 ∨ q = 76) → μ43 q = μ q := fun q hq => by rw [rFr_q hF43 (by omega), rFr_q hF34 (by omega)]; exact hq3 q hq
        refine zU_if_ne 51 d_R_conflict_46 (by decide) (hr43) (fun h46 => ?_) (fun h46 => ?_)
        · obtain ⟨N1, K1', hTh1, hK10, hG34, hB34⟩ : ∃ N K, rThere a i N K ∧ K 0 = true ∧ rGr a (aMem a (some i)) 1 N μ34 ∧ rBd 1 N K μ34 := by
            rcases h34a with h | h
            · exact absurd h.1 h37
            · exact h.2
          obtain ⟨N2, K2', hTh2, hK20, hG43, hB43⟩ : ∃ N K, rThere a j N K ∧ K 0 = true ∧ rGr a (aMem a (some j)) 2 N μ43 ∧ rBd 2 N K μ43 := by
            rcases h43a with h | h
            · exact absurd h.1 h46
            · exact h.2
          obtain ⟨K1, M1, K2, M2, hH, hE1, hE2, hC3⟩ := conf_3 hCC hTh1 hK10 hTh2 hK20
          have hN1 := hTh1.2.2.1.2
          have hN2 := hTh2.2.2.1.2
          have hB1 : rBd 1 N1 K1 μ43 := rBd_K (rBd_row hB34 hN1 (by decide) hF43) hE1
          have hB2 : rBd 2 N2 K2 μ43 := rBd_K hB43 hE2
          have hT1 := rGr_T ha hW43.2.1 hTh1.2.1 hN1 (rGr_row hG34 hN1 (by decide) hF43)
          have hT2 := rGr_T ha hW43.2.1 hTh2.2.1 hN2 hG43
          refine zU_aload_n d_R_conflict_51 rfl ?_
          refine zU_iconst d_R_conflict_52 ?_
          refine zU_putI d_R_conflict_53 f_R_164 p_R_pairs (by decide) rfl rfl (Or.inl rfl) ?_
          obtain ⟨μ53, hμ53⟩ : ∃ μ53, μ53 = zup μ43 51 29 0 := ⟨_, rfl⟩
          refine zU.eqM (μ' := μ53) hμ53.symm ?_
          refine zU_aload_n d_R_conflict_56 rfl ?_
          refine zU_iconst d_R_conflict_57 ?_
          refine zU_iconst d_R_conflict_58 ?_
          refine zU_callVi (p0 := 51) [zi 0, zi 0] d_R_conflict_59 k_R_167 rfl (by decide) rfl rfl (by decide) (Nat.le_of_ble_eq_true rfl) (fun l => m_R_couple l μ53 (L := []) ⟨by rw [hμ53, zup_at]; simp, by simp, fun k p h => by simp at h⟩ (fun k p h => by simp at h) (x := 0) (y := 0) (by omega) (by omega)) (fun r59 μ59 h59 => ?_)
          obtain ⟨hP59, hq59, hz59⟩ : rPr (gAt (pq a i j N1 K1 N2 K2) 0 (12 * 0)).1 μ59 ∧ (∀ q, q ≠ 51 → q ≠ 74 → q ≠ 75 → μ59 q = μ43 q) ∧ ∀ z, z ≠ 29 → μ59 51 z = μ43 51 z := by
            rcases h59 with ⟨k, h, _⟩ | ⟨_, h, _⟩ | ⟨_, _, _, h⟩
            · simp at h
            · simp at h
            · rw [h]
              exact ⟨rPr_add (L := []) (x := 0) (y := 0) ⟨by rw [hμ53, zup_at]; simp, by simp, fun k p h => by simp at h⟩ (by simp) (by omega), fun q q1 q2 q3 => by rw [zup_ne _ _ _ q1, zup_ne _ _ _ q3, zup_ne _ _ _ q2, hμ53, zup_ne _ _ _ q1], fun z hz => by rw [zup_at, if_neg (by omega), zup_ne _ _ _ (by decide), zup_ne _ _ _ (by decide), hμ53, zup_at, if_neg (by omega)]⟩
          refine zU_pop d_R_conflict_62 rfl ?_
          refine zU_iconst d_R_conflict_63 ?_
          refine zU_istore_n d_R_conflict_64 (by decide) ?_
          refine zU.eqL (L' := [some (zp 51), some (zi (i : Int)), some (zi (j : Int)), some (zi 0), none, none, none]) rfl ?_
          have hJ65 : ∀ (d : Nat) (k : Nat) (μ1 : zM), k + d = 201 → rPr (gAt (pq a i j N1 K1 N2 K2) 0 (12 * k)).1 μ1 → k ≤ (gAt (pq a i j N1 K1 N2 K2) 0 (12 * k)).1.length → (∀ j', j' < k → j' < (gAt (pq a i j N1 K1 N2 K2) 0 (12 * j')).1.length) → (∀ q, q ≠ 51 → q ≠ 74 → q ≠ 75 → μ1 q = μ43 q) → (∀ z, z ≠ 29 → μ1 51 z = μ43 51 z) → zU Γ b_R_conflict n_R 7 (some .int) [] (zRm 4 0 104) 0 0 (zFin Γ 0 false (zRi (fun r μ' => μ' 51 0 = t0 ∧ (t0 = 0 → r = r0) ∧ rWor a v μ' ∧ ∀ q, (q < 51 ∨ q = 76) → μ' q = μ q))) false 0 μ1 65 [some (zp 51), some (zi (i : Int)), some (zi (j : Int)), some (zi (k : Int)), none, none, none] [] := by
            intro d
            induction d using Nat.strongRecOn with
            | _ d ih65 =>
              intro k μ1 hd hP1 hkl hks hq1 hz1
              have hl1 := hP1.2.1
              refine zU_iload_n d_R_conflict_65 rfl ?_
              refine zU_aload_n d_R_conflict_66 rfl ?_
              refine zU_getI (v := ((gAt (pq a i j N1 K1 N2 K2) 0 (12 * k)).1.length : Int)) d_R_conflict_67 f_R_164 (by decide) rfl rfl (hP1.1) ?_
              refine zU_icmp_ge 148 d_R_conflict_70 (by decide) (by omega) (by omega) (fun h70 => ?_) (fun h70 => ?_)
              · have hFn : gFin (pq a i j N1 K1 N2 K2) 0 k := ⟨(show (gAt (pq a i j N1 K1 N2 K2) 0 (12 * k)).1.length = k by omega), hks⟩
                have hn : k ≤ 200 := by omega
                have hcf := conf3_f hC3 hFn hn
                refine zU_iconst d_R_conflict_148 ?_
                refine zU_istore_n d_R_conflict_149 (by decide) ?_
                refine zU.eqL (L' := [some (zp 51), some (zi (i : Int)), some (zi (j : Int)), some (zi 0), none, none, none]) rfl ?_
                have hJ150 : ∀ (d : Nat) (m : Nat) (μ3 : zM), m + d = k → rPr (gAt (pq a i j N1 K1 N2 K2) 0 (12 * k)).1 μ3 → (∀ j', j' < m → ∃ d, rch (gtg (gAt (pq a i j N1 K1 N2 K2) 0 (12 * k))) (fun _ => true) (pG a i j N1 N2 (gAt (pq a i j N1 K1 N2 K2) 0 (12 * k)).1) d j' = true) → (∀ q, q ≠ 51 → q ≠ 71 → q ≠ 72 → q ≠ 74 → q ≠ 75 → μ3 q = μ43 q) → (∀ z, z ≠ 29 → μ3 51 z = μ43 51 z) → zU Γ b_R_conflict n_R 7 (some .int) [] (zRm 4 0 104) 0 0 (zFin Γ 0 false (zRi (fun r μ' => μ' 51 0 = t0 ∧ (t0 = 0 → r = r0) ∧ rWor a v μ' ∧ ∀ q, (q < 51 ∨ q = 76) → μ' q = μ q))) false 0 μ3 150 [some (zp 51), some (zi (i : Int)), some (zi (j : Int)), some (zi (m : Int)), none, none, none] [] := by
                  intro d
                  induction d using Nat.strongRecOn with
                  | _ d ih150 =>
                    intro m μ3 hd3 hP3 hm3 hq5 hz3
                    refine zU_iload_n d_R_conflict_150 rfl ?_
                    refine zU_aload_n d_R_conflict_151 rfl ?_
                    refine zU_getI (v := (k : Int)) d_R_conflict_152 f_R_164 (by decide) rfl rfl (by rw [hP3.1, hFn.1]) ?_
                    refine zU_icmp_ge 174 d_R_conflict_155 (by decide) (by omega) (by omega) (fun h155 => ?_) (fun h155 => ?_)
                    · refine zU_iconst d_R_conflict_174 ?_
                      exact zU_ireturn d_R_conflict_175 (Or.inl rfl) (by decide) (by decide) (⟨_, rfl, by rw [hz3 0 (by decide), h430, hc0]; exact ht0.symm, fun _ => (show r0 = 0 by rcases hcf with h | h; { exfalso; obtain ⟨k9, h8, h9⟩ := h.2; obtain ⟨d9, h7⟩ := hm3 k9 (by omega); rw [h9 d9] at h7; cases h7 }; { exact h.1 }).symm, (rWor_fr hW43 (fun z hz => hz3 z (by unfold r51 at hz; omega)) (fun q h1 h2 => hq5 q (by omega) (by omega) (by omega) (by omega) (by omega)) (fun q z h1 h2 _ => by rw [hq5 q (by omega) (by omega) (by omega) (by omega) (by omega)]) (hq5 67 (by omega) (by omega) (by omega) (by omega) (by omega)) (hq5 68 (by omega) (by omega) (by omega) (by omega) (by omega)) (hq5 73 (by omega) (by omega) (by omega) (by omega) (by omega))), fun q hq => by rw [hq5 q (by omega) (by omega) (by omega) (by omega) (by omega)]; exact h43q q hq⟩)
                    · refine zU_aload_n d_R_conflict_158 rfl ?_
                      refine zU_iload_n d_R_conflict_159 rfl ?_
                      refine zU_callVi (p0 := 51) [zi (m : Int)] d_R_conflict_160 k_R_176 rfl (by decide) rfl rfl (by decide) (Nat.le_of_ble_eq_true rfl) (fun l => m_R_comesHome l μ3 (rT_q hT1 (fun q h1 h2 => hq5 q (by omega) (by omega) (by omega) (by omega) (by omega))) (rBd_q hB1 (hq5 65 (by decide) (by decide) (by decide) (by decide) (by decide))) (rT_q hT2 (fun q h1 h2 => hq5 q (by omega) (by omega) (by omega) (by omega) (by omega))) (rBd_q hB2 (hq5 65 (by decide) (by decide) (by decide) (by decide) (by decide))) hFn hn hP3 (fun p hp => ⟨(gAt_pOk hH _ p hp).1, (gAt_pOk hH _ p hp).2.1⟩) (f := m) (by omega)) (fun r160 μ160 h160 => ?_)
                      obtain ⟨h160a, hq160⟩ := h160
                      have hr160 : -2147483648 ≤ r160 ∧ r160 ≤ 2147483647 := by rcases h160a with h | h <;> omega
                      refine zU_if_ne 168 d_R_conflict_163 (by decide) (hr160) (fun h163 => ?_) (fun h163 => ?_)
                      · refine zU_iinc d_R_conflict_168 rfl ?_
                        refine zU.eqL (L' := [some (zp 51), some (zi (i : Int)), some (zi (j : Int)), some (zi (((m + 1 : Nat) : Int))), none, none, none]) (by first | rfl | exact congrArg (fun zz : Int => [some (zp 51), some (zi (i : Int)), some (zi (j : Int)), some (zi zz), none, none, none]) (show ((m : Int) + 1 : Int) = ((m + 1 : Nat) : Int) by omega)) ?_
                        refine zU_goto 150 d_R_conflict_171 (by decide) ?_
                        exact ih150 (d - 1) (by omega) (m + 1) μ160 (by omega) (rPr_congr hP3 (by rw [hq160 51 (by decide) (by decide)]) (hq160 74 (by decide) (by decide)) (hq160 75 (by decide) (by decide))) (fun j' hj' => by by_cases h : j' = m; { rw [h]; rcases h160a with h9 | h9; { exact h9.2 }; { exact absurd h9.1 h163 } }; { exact hm3 j' (by omega) }) (fun q h1 h2 h3 h4 h5 => by rw [hq160 q h2 h3]; exact hq5 q h1 h2 h3 h4 h5) (fun z hz => by rw [hq160 51 (by decide) (by decide)]; exact hz3 z hz)
                      · refine zU_iconst d_R_conflict_166 ?_
                        exact zU_ireturn d_R_conflict_167 (Or.inl rfl) (by decide) (by decide) (⟨_, rfl, by rw [hq160 51 (by decide) (by decide), hz3 0 (by decide), h430, hc0]; exact ht0.symm, fun _ => (by rcases hcf with h | h; { exact h.1.symm }; { exfalso; obtain ⟨d9, h9⟩ := h.2 m (by omega); rcases h160a with h8 | h8; { omega }; { have h7 := h8.2 d9; rw [show pGo _ _ _ = pG a i j N1 N2 (gAt (pq a i j N1 K1 N2 K2) 0 (12 * k)).1 from rfl, h9] at h7; cases h7 } }), (rWor_fr hW43 (fun z hz => by rw [hq160 51 (by decide) (by decide)]; exact hz3 z (by unfold r51 at hz; omega)) (fun q h1 h2 => by rw [hq160 q (by omega) (by omega)]; exact hq5 q (by omega) (by omega) (by omega) (by omega) (by omega)) (fun q z h1 h2 _ => by rw [hq160 q (by omega) (by omega), hq5 q (by omega) (by omega) (by omega) (by omega) (by omega)]) (by rw [hq160 67 (by decide) (by decide)]; exact hq5 67 (by decide) (by decide) (by decide) (by decide) (by decide)) (by rw [hq160 68 (by decide) (by decide)]; exact hq5 68 (by decide) (by decide) (by decide) (by decide) (by decide)) (by rw [hq160 73 (by decide) (by decide)]; exact hq5 73 (by decide) (by decide) (by decide) (by decide) (by decide))), fun q hq => by rw [hq160 q (by omega) (by omega), hq5 q (by omega) (by omega) (by omega) (by omega) (by omega)]; exact h43q q hq⟩)
                exact hJ150 k 0 μ1 (by omega) hP1 (fun j' hj' => absurd hj' (by omega)) (fun q h1 h2 h3 h4 h5 => hq1 q h1 h4 h5) hz1
              · obtain ⟨p, hp⟩ : ∃ p, (gAt (pq a i j N1 K1 N2 K2) 0 (12 * k)).1[k]? = some p := ⟨_, List.getElem?_eq_getElem (by omega)⟩
                have hpo := gAt_pOk hH _ p (List.mem_of_getElem? hp)
                have hpk : p / 256 < N1 ∧ p % 256 < N2 := ⟨hpo.1, hpo.2.1⟩
                refine zU_iconst d_R_conflict_73 ?_
                refine zU_istore d_R_conflict_74 (by decide) ?_
                refine zU.eqL (L' := [some (zp 51), some (zi (i : Int)), some (zi (j : Int)), some (zi (k : Int)), some (zi 0), none, none]) rfl ?_
                have hJ76 : ∀ (d : Nat) (e : Nat) (μ2 : zM), e + d = 12 → rPr (gAt (pq a i j N1 K1 N2 K2) 0 (12 * k + e)).1 μ2 → (∀ q, q ≠ 51 → q ≠ 74 → q ≠ 75 → μ2 q = μ43 q) → (∀ z, z ≠ 29 → μ2 51 z = μ43 51 z) → zU Γ b_R_conflict n_R 7 (some .int) [] (zRm 4 0 104) 0 0 (zFin Γ 0 false (zRi (fun r μ' => μ' 51 0 = t0 ∧ (t0 = 0 → r = r0) ∧ rWor a v μ' ∧ ∀ q, (q < 51 ∨ q = 76) → μ' q = μ q))) false 0 μ2 76 [some (zp 51), some (zi (i : Int)), some (zi (j : Int)), some (zi (k : Int)), some (zi (e : Int)), none, none] [] := by
                  intro d
                  induction d using Nat.strongRecOn with
                  | _ d ih76 =>
                    intro e μ2 hd2 hP2 hq2 hz2
                    have hTa := rT_q hT1 (fun q h1 h2 => hq2 q (by omega) (by omega) (by omega))
                    have hBa := rBd_q hB1 (hq2 65 (by decide) (by decide) (by decide))
                    have hTb := rT_q hT2 (fun q h1 h2 => hq2 q (by omega) (by omega) (by omega))
                    have hBb := rBd_q hB2 (hq2 65 (by decide) (by decide) (by decide))
                    have hp2 := hP2.2.2 k
                    refine zU_iload d_R_conflict_76 rfl ?_
                    refine zU_bipush d_R_conflict_78 (by decide) ?_
                    refine zU_icmp_ge 142 d_R_conflict_80 (by decide) (by omega) (by omega) (fun h80 => ?_) (fun h80 => ?_)
                    · have he12 : 12 * (k + 1) = 12 * k + e := by omega
                      refine zU_iinc d_R_conflict_142 rfl ?_
                      refine zU.eqL (L' := [some (zp 51), some (zi (i : Int)), some (zi (j : Int)), some (zi (((k + 1 : Nat) : Int))), some (zi (e : Int)), none, none]) (by first | rfl | exact congrArg (fun zz : Int => [some (zp 51), some (zi (i : Int)), some (zi (j : Int)), some (zi zz), some (zi (e : Int)), none, none]) (show ((k : Int) + 1 : Int) = ((k + 1 : Nat) : Int) by omega)) ?_
                      refine zU_goto 65 d_R_conflict_145 (by decide) ?_
                      refine zU.drop 4 (L' := [some (zp 51), some (zi (i : Int)), some (zi (j : Int)), some (zi (((k + 1 : Nat) : Int))), none, none, none]) rfl ?_
                      exact ih65 (201 - (k + 1)) (by omega) (k + 1) μ2 (by omega) (by rw [he12]; exact hP2) (by rw [he12]; have h9 : (gAt (pq a i j N1 K1 N2 K2) 0 (12 * k)).1.length ≤ (gAt (pq a i j N1 K1 N2 K2) 0 (12 * k + e)).1.length := gAt_len (by omega); omega) (fun j' hj' => by by_cases h : j' = k; { rw [h]; omega }; { exact hks j' (by omega) }) hq2 hz2
                    · have he : e < 12 := by omega
                      have hX1 : ktg (gtg (rg a i N1)) K1 (p / 256) e ≤ N1 := ktg_leN ((hTa.2.2 _ hpk.1).2 e he).1.2
                      have hX2 : ktg (gtg (rg a j N2)) K2 (p % 256) e ≤ N2 := ktg_leN ((hTb.2.2 _ hpk.2).2 e he).1.2
                      refine zU_aload_n d_R_conflict_83 rfl ?_
                      refine zU_iconst d_R_conflict_84 ?_
                      refine zU_aload_n d_R_conflict_85 rfl ?_
                      refine zU_getR 74 d_R_conflict_86 f_R_77 (by decide) rfl rfl rfl ?_
                      refine zU_iload_n d_R_conflict_89 rfl ?_
                      refine zU_iald (v := ((p / 256 : Nat) : Int)) d_R_conflict_90 (by decide) rfl (by decide) (by omega) ((hp2 p (gAt_get (by omega) hp)).1) ?_
                      refine zU_iload d_R_conflict_91 rfl ?_
                      refine zU_callVi (p0 := 51) [zi 1, zi (((p / 256 : Nat) : Int)), zi (e : Int)] d_R_conflict_93 k_R_135 rfl (by decide) rfl rfl (by decide) (Nat.le_of_ble_eq_true rfl) (fun l => m_R_good l μ2 (B := sC a) (w := 1) (by omega) hTa hBa (k := p / 256) (e := e) hpk.1 he) (fun r93 μ93 h93 => ?_)
                      obtain ⟨hμ93, rfl⟩ := h93
                      replace hμ93 := hμ93.symm
                      subst hμ93
                      refine zU_istore d_R_conflict_96 (by decide) ?_
                      refine zU.eqL (L' := [some (zp 51), some (zi (i : Int)), some (zi (j : Int)), some (zi (k : Int)), some (zi (e : Int)), some (zi ((ktg (gtg (rg a i N1)) K1 (p / 256) e : Int) - 1)), none]) rfl ?_
                      refine zU_aload_n d_R_conflict_98 rfl ?_
                      refine zU_iconst d_R_conflict_99 ?_
                      refine zU_aload_n d_R_conflict_100 rfl ?_
                      refine zU_getR 75 d_R_conflict_101 f_R_80 (by decide) rfl rfl rfl ?_
                      refine zU_iload_n d_R_conflict_104 rfl ?_
                      refine zU_iald (v := ((p % 256 : Nat) : Int)) d_R_conflict_105 (by decide) rfl (by decide) (by omega) ((hp2 p (gAt_get (by omega) hp)).2) ?_
                      refine zU_iload d_R_conflict_106 rfl ?_
                      refine zU_callVi (p0 := 51) [zi 2, zi (((p % 256 : Nat) : Int)), zi (e : Int)] d_R_conflict_108 k_R_135 rfl (by decide) rfl rfl (by decide) (Nat.le_of_ble_eq_true rfl) (fun l => m_R_good l μ2 (B := sC a) (w := 2) (by omega) hTb hBb (k := p % 256) (e := e) hpk.2 he) (fun r108 μ108 h108 => ?_)
                      obtain ⟨hμ108, rfl⟩ := h108
                      replace hμ108 := hμ108.symm
                      subst hμ108
                      refine zU_istore d_R_conflict_111 (by decide) ?_
                      refine zU.eqL (L' := [some (zp 51), some (zi (i : Int)), some (zi (j : Int)), some (zi (k : Int)), some (zi (e : Int)), some (zi ((ktg (gtg (rg a i N1)) K1 (p / 256) e : Int) - 1)), some (zi ((ktg (gtg (rg a j N2)) K2 (p % 256) e : Int) - 1))]) rfl ?_
                      refine zU_iload d_R_conflict_113 rfl ?_
                      refine zU_if_lt 136 d_R_conflict_115 (by decide) (by omega) (fun h115 => ?_) (fun h115 => ?_)
                      · have hgo : (gAt (pq a i j N1 K1 N2 K2) 0 (12 * k + (e + 1))).1 = (gAt (pq a i j N1 K1 N2 K2) 0 (12 * k + e)).1 := rPr_none he hp (Or.inl (show ktg (gtg (rg a i N1)) K1 (p / 256) e = 0 by omega))
                        refine zU_iinc d_R_conflict_136 rfl ?_
                        refine zU.eqL (L' := [some (zp 51), some (zi (i : Int)), some (zi (j : Int)), some (zi (k : Int)), some (zi (((e + 1 : Nat) : Int))), some (zi ((ktg (gtg (rg a i N1)) K1 (p / 256) e : Int) - 1)), some (zi ((ktg (gtg (rg a j N2)) K2 (p % 256) e : Int) - 1))]) (by first | rfl | exact congrArg (fun zz : Int => [some (zp 51), some (zi (i : Int)), some (zi (j : Int)), some (zi (k : Int)), some (zi zz), some (zi ((ktg (gtg (rg a i N1)) K1 (p / 256) e : Int) - 1)), some (zi ((ktg (gtg (rg a j N2)) K2 (p % 256) e : Int) - 1))]) (show ((e : Int) + 1 : Int) = ((e + 1 : Nat) : Int) by omega)) ?_
                        refine zU_goto 76 d_R_conflict_139 (by decide) ?_
                        refine zU.drop 5 (L' := [some (zp 51), some (zi (i : Int)), some (zi (j : Int)), some (zi (k : Int)), some (zi (((e + 1 : Nat) : Int))), none, some (zi ((ktg (gtg (rg a j N2)) K2 (p % 256) e : Int) - 1))]) rfl ?_
                        refine zU.drop 6 (L' := [some (zp 51), some (zi (i : Int)), some (zi (j : Int)), some (zi (k : Int)), some (zi (((e + 1 : Nat) : Int))), none, none]) rfl ?_
                        exact ih76 (d - 1) (by omega) (e + 1) μ2 (by omega) (by rw [hgo]; exact hP2) hq2 hz2
                      · refine zU_iload d_R_conflict_118 rfl ?_
                        refine zU_if_lt 136 d_R_conflict_120 (by decide) (by omega) (fun h120 => ?_) (fun h120 => ?_)
                        · have hgo : (gAt (pq a i j N1 K1 N2 K2) 0 (12 * k + (e + 1))).1 = (gAt (pq a i j N1 K1 N2 K2) 0 (12 * k + e)).1 := rPr_none he hp (Or.inr (show ktg (gtg (rg a j N2)) K2 (p % 256) e = 0 by omega))
                          refine zU_iinc d_R_conflict_136 rfl ?_
                          refine zU.eqL (L' := [some (zp 51), some (zi (i : Int)), some (zi (j : Int)), some (zi (k : Int)), some (zi (((e + 1 : Nat) : Int))), some (zi ((ktg (gtg (rg a i N1)) K1 (p / 256) e : Int) - 1)), some (zi ((ktg (gtg (rg a j N2)) K2 (p % 256) e : Int) - 1))]) (by first | rfl | exact congrArg (fun zz : Int => [some (zp 51), some (zi (i : Int)), some (zi (j : Int)), some (zi (k : Int)), some (zi zz), some (zi ((ktg (gtg (rg a i N1)) K1 (p / 256) e : Int) - 1)), some (zi ((ktg (gtg (rg a j N2)) K2 (p % 256) e : Int) - 1))]) (show ((e : Int) + 1 : Int) = ((e + 1 : Nat) : Int) by omega)) ?_
                          refine zU_goto 76 d_R_conflict_139 (by decide) ?_
                          refine zU.drop 5 (L' := [some (zp 51), some (zi (i : Int)), some (zi (j : Int)), some (zi (k : Int)), some (zi (((e + 1 : Nat) : Int))), none, some (zi ((ktg (gtg (rg a j N2)) K2 (p % 256) e : Int) - 1))]) rfl ?_
                          refine zU.drop 6 (L' := [some (zp 51), some (zi (i : Int)), some (zi (j : Int)), some (zi (k : Int)), some (zi (((e + 1 : Nat) : Int))), none, none]) rfl ?_
                          exact ih76 (d - 1) (by omega) (e + 1) μ2 (by omega) (by rw [hgo]; exact hP2) hq2 hz2
                        · refine zU.eqL (L' := [some (zp 51), some (zi (i : Int)), some (zi (j : Int)), some (zi (k : Int)), some (zi (e : Int)), some (zi ((ktg (gtg (rg a i N1)) K1 (p / 256) e - 1 : Nat) : Int)), some (zi ((ktg (gtg (rg a j N2)) K2 (p % 256) e : Int) - 1))]) (congrArg (fun zz : Int => [some (zp 51), some (zi (i : Int)), some (zi (j : Int)), some (zi (k : Int)), some (zi (e : Int)), some (zi zz), some (zi ((ktg (gtg (rg a j N2)) K2 (p % 256) e : Int) - 1))]) (show ((ktg (gtg (rg a i N1)) K1 (p / 256) e : Int) - 1 : Int) = ((ktg (gtg (rg a i N1)) K1 (p / 256) e - 1 : Nat) : Int) by omega)) ?_
                          refine zU_aload_n d_R_conflict_123 rfl ?_
                          refine zU.eqL (L' := [some (zp 51), some (zi (i : Int)), some (zi (j : Int)), some (zi (k : Int)), some (zi (e : Int)), some (zi ((ktg (gtg (rg a i N1)) K1 (p / 256) e - 1 : Nat) : Int)), some (zi ((ktg (gtg (rg a j N2)) K2 (p % 256) e - 1 : Nat) : Int))]) (congrArg (fun zz : Int => [some (zp 51), some (zi (i : Int)), some (zi (j : Int)), some (zi (k : Int)), some (zi (e : Int)), some (zi ((ktg (gtg (rg a i N1)) K1 (p / 256) e - 1 : Nat) : Int)), some (zi zz)]) (show ((ktg (gtg (rg a j N2)) K2 (p % 256) e : Int) - 1 : Int) = ((ktg (gtg (rg a j N2)) K2 (p % 256) e - 1 : Nat) : Int) by omega)) ?_
                          refine zU_iload d_R_conflict_124 rfl ?_
                          refine zU_iload d_R_conflict_126 rfl ?_
                          refine zU_callVi (p0 := 51) [zi ((ktg (gtg (rg a i N1)) K1 (p / 256) e - 1 : Nat) : Int), zi ((ktg (gtg (rg a j N2)) K2 (p % 256) e - 1 : Nat) : Int)] d_R_conflict_128 k_R_167 rfl (by decide) rfl rfl (by decide) (Nat.le_of_ble_eq_true rfl) (fun l => m_R_couple l μ2 hP2 (fun k p h => by have h9 := gAt_pOk hH _ p (List.mem_of_getElem? h); have h8 := h9.1; have h7 := h9.2.1; omega) (x := ktg (gtg (rg a i N1)) K1 (p / 256) e - 1) (y := ktg (gtg (rg a j N2)) K2 (p % 256) e - 1) (by omega) (by omega)) (fun r128 μ128 h128 => ?_)
                          obtain ⟨hs128, hq128, hz128⟩ := rPr_step he hp (show ktg (gtg (rg a i N1)) K1 (p / 256) e ≠ 0 by omega) (show ktg (gtg (rg a j N2)) K2 (p % 256) e ≠ 0 by omega) (by omega) hP2 h128
                          have hr128 : -2147483648 ≤ r128 ∧ r128 ≤ 2147483647 := by rcases hs128 with h | h <;> omega
                          refine zU_if_ge 136 d_R_conflict_131 (by decide) (hr128) (fun h131 => ?_) (fun h131 => ?_)
                          · refine zU_iinc d_R_conflict_136 rfl ?_
                            refine zU.eqL (L' := [some (zp 51), some (zi (i : Int)), some (zi (j : Int)), some (zi (k : Int)), some (zi (((e + 1 : Nat) : Int))), some (zi ((ktg (gtg (rg a i N1)) K1 (p / 256) e - 1 : Nat) : Int)), some (zi ((ktg (gtg (rg a j N2)) K2 (p % 256) e - 1 : Nat) : Int))]) (by first | rfl | exact congrArg (fun zz : Int => [some (zp 51), some (zi (i : Int)), some (zi (j : Int)), some (zi (k : Int)), some (zi zz), some (zi ((ktg (gtg (rg a i N1)) K1 (p / 256) e - 1 : Nat) : Int)), some (zi ((ktg (gtg (rg a j N2)) K2 (p % 256) e - 1 : Nat) : Int))]) (show ((e : Int) + 1 : Int) = ((e + 1 : Nat) : Int) by omega)) ?_
                            refine zU_goto 76 d_R_conflict_139 (by decide) ?_
                            refine zU.drop 5 (L' := [some (zp 51), some (zi (i : Int)), some (zi (j : Int)), some (zi (k : Int)), some (zi (((e + 1 : Nat) : Int))), none, some (zi ((ktg (gtg (rg a j N2)) K2 (p % 256) e - 1 : Nat) : Int))]) rfl ?_
                            refine zU.drop 6 (L' := [some (zp 51), some (zi (i : Int)), some (zi (j : Int)), some (zi (k : Int)), some (zi (((e + 1 : Nat) : Int))), none, none]) rfl ?_
                            exact ih76 (d - 1) (by omega) (e + 1) μ128 (by omega) (by rcases hs128 with h | h; exact h.2.2; exfalso; omega) (fun q h1 h2 h3 => by rw [hq128 q h1 h2 h3]; exact hq2 q h1 h2 h3) (fun z hz => by rw [hz128 z hz]; exact hz2 z hz)
                          · refine zU_iconst d_R_conflict_134 ?_
                            exact zU_ireturn d_R_conflict_135 (Or.inl rfl) (by decide) (by decide) (⟨_, rfl, by rw [hz128 0 (by decide), hz2 0 (by decide), h430, hc0]; exact ht0.symm, fun _ => (conf3_m hC3 (by rcases hs128 with h | h; { exfalso; omega }; { exact h.2 })).symm, (rWor_fr hW43 (fun z hz => by rw [hz128 z (by unfold r51 at hz; omega)]; exact hz2 z (by unfold r51 at hz; omega)) (fun q h1 h2 => by rw [hq128 q (by omega) (by omega) (by omega)]; exact hq2 q (by omega) (by omega) (by omega)) (fun q z h1 h2 _ => by rw [hq128 q (by omega) (by omega) (by omega), hq2 q (by omega) (by omega) (by omega)]) (by rw [hq128 67 (by decide) (by decide) (by decide)]; exact hq2 67 (by decide) (by decide) (by decide)) (by rw [hq128 68 (by decide) (by decide) (by decide)]; exact hq2 68 (by decide) (by decide) (by decide)) (by rw [hq128 73 (by decide) (by decide) (by decide)]; exact hq2 73 (by decide) (by decide) (by decide))), fun q hq => by rw [hq128 q (by omega) (by omega) (by omega), hq2 q (by omega) (by omega) (by omega)]; exact h43q q hq⟩)
                exact hJ76 12 0 μ1 (by omega) hP1 hq1 hz1
          exact hJ65 201 0 μ59 (by omega) hP59 (by omega) (fun j' hj' => absurd hj' (by omega)) hq59 hz59
        · refine zU_iconst d_R_conflict_49 ?_
          exact zU_ireturn d_R_conflict_50 (Or.inl rfl) (by decide) (by decide) (⟨_, rfl, by rw [h430, hc0]; exact ht0.symm, fun _ => (conf_2 hCC (by rcases h43a with h | h; { exact h.2 }; { exfalso; omega })).symm, hW43, h43q⟩)
    · have b26 := zB_nz.mp h26
      refine zU_iconst d_R_conflict_29 ?_
      exact zU_ireturn d_R_conflict_30 (Or.inl rfl) (by decide) (by decide) (⟨_, rfl, by rw [ht3]; rcases hC with ⟨_, i, j, c1, c2, ⟨c3, c4⟩, ⟨c5, c6⟩, _⟩ | ⟨h1, h2⟩; { exfalso; subst c1; subst c2; simp [c3, c4, c5, c6] at b26 }; { rw [h1]; have h9 : (!((decide (0 ≤ x ∧ x < (aN a : Int)) && !aP a x.toNat) && (decide (0 ≤ y ∧ y < (aN a : Int)) && !aP a y.toNat))) = true := (by cases h8 : (!((decide (0 ≤ x ∧ x < (aN a : Int)) && !aP a x.toNat) && (decide (0 ≤ y ∧ y < (aN a : Int)) && !aP a y.toNat))); { rw [h8] at b26; cases b26 }; { rfl }); rw [h9]; rfl }, fun h => by rcases hC with ⟨_, i, j, c1, c2, ⟨c3, c4⟩, ⟨c5, c6⟩, _⟩ | ⟨h1, h2⟩; { exfalso; subst c1; subst c2; simp [c3, c4, c5, c6] at b26 }; { omega }, hW3, hq3⟩)
  refine zU_if_eq 17 d_R_conflict_6 (by decide) (zBr _) (fun h6 => ?_) (fun h6 => ?_)
  · have b6 := zB_zero.mp h6
    refine zU_iconst d_R_conflict_17 ?_
    refine zU_goto 22 d_R_conflict_18 (by decide) ?_
    refine zU.eqS (st' := [zi (zB (!((decide (0 ≤ x ∧ x < (aN a : Int)) && !aP a x.toNat) && (decide (0 ≤ y ∧ y < (aN a : Int)) && !aP a y.toNat)))), zp 51]) (congrArg (fun zz : Int => [zi zz, zp 51]) (show (1 : Int) = zB (!((decide (0 ≤ x ∧ x < (aN a : Int)) && !aP a x.toNat) && (decide (0 ≤ y ∧ y < (aN a : Int)) && !aP a y.toNat))) from (zBt (by rw [b6]; rfl)).symm)) ?_
    exact hJ22 
  · have b6 := zB_nz.mp h6
    refine zU_aload_n d_R_conflict_9 rfl ?_
    refine zU_iload_n d_R_conflict_10 rfl ?_
    refine zU_callVi (p0 := 51) [zi y] d_R_conflict_11 k_R_170 rfl (by decide) rfl rfl (by decide) (Nat.le_of_ble_eq_true rfl) (fun l => m_R_isRule l μ ha hc hy) (fun r11 μ11 h11 => ?_)
    obtain ⟨hμ11, rfl⟩ := h11
    replace hμ11 := hμ11.symm
    subst hμ11
    refine zU_if_ne 21 d_R_conflict_14 (by decide) (zBr _) (fun h14 => ?_) (fun h14 => ?_)
    · have b14 := zB_nz.mp h14
      refine zU_iconst d_R_conflict_21 ?_
      refine zU.eqS (st' := [zi (zB (!((decide (0 ≤ x ∧ x < (aN a : Int)) && !aP a x.toNat) && (decide (0 ≤ y ∧ y < (aN a : Int)) && !aP a y.toNat)))), zp 51]) (congrArg (fun zz : Int => [zi zz, zp 51]) (show (0 : Int) = zB (!((decide (0 ≤ x ∧ x < (aN a : Int)) && !aP a x.toNat) && (decide (0 ≤ y ∧ y < (aN a : Int)) && !aP a y.toNat))) from (zBf (by rw [b6, b14]; rfl)).symm)) ?_
      exact hJ22 
    · have b14 := zB_zero.mp h14
      refine zU_iconst d_R_conflict_17 ?_
      refine zU_goto 22 d_R_conflict_18 (by decide) ?_
      refine zU.eqS (st' := [zi (zB (!((decide (0 ≤ x ∧ x < (aN a : Int)) && !aP a x.toNat) && (decide (0 ≤ y ∧ y < (aN a : Int)) && !aP a y.toNat)))), zp 51]) (congrArg (fun zz : Int => [zi zz, zp 51]) (show (1 : Int) = zB (!((decide (0 ≤ x ∧ x < (aN a : Int)) && !aP a x.toNat) && (decide (0 ≤ y ∧ y < (aN a : Int)) && !aP a y.toNat))) from (zBt (by rw [b14, Bool.and_false]; rfl)).symm)) ?_
      exact hJ22 
