/-- the first loop of measure: k nodes have been looked at, w of them wait -/
def mIni (K G : Nat → Bool) (μ : zM) (k w : Nat) (μ1 : zM) : Prop := w + cnt (fun j => !(K j && G j)) k = k ∧ (∀ j, j < k → μ1 20 (j + 1) = if (K j && G j) = true then 0 else -1) ∧ (∀ j, j < w → ∃ k', k' < k ∧ μ1 25 j = ((k' + 1 : Nat) : Int) ∧ (K k' && G k') = true) ∧
  (∀ k', k' < k → (K k' && G k') = true → ∃ j, j < w ∧ μ1 25 j = ((k' + 1 : Nat) : Int)) ∧ ∀ q, q ≠ 20 → q ≠ 25 → μ1 q = μ q
theorem mIni_no {K G : Nat → Bool} {μ μ1 : zM} {k w : Nat} (h : mIni K G μ k w μ1) (hb : (K k && G k) = false) : mIni K G μ (k + 1) w (zup μ1 20 (k + 1) (-1)) := by
  obtain ⟨h1, h2, h3, h4, h5⟩ := h
  refine ⟨by show w + (cnt _ k + (if (!(K k && G k)) = true then 1 else 0)) = k + 1; rw [hb]; simp only [Bool.not_false, if_true]; omega, fun j hj => ?_, fun j hj => ?_, fun k' hk' hb' => ?_, fun q q1 q2 => by rw [zup_ne _ _ _ q1]; exact h5 q q1 q2⟩
  · rw [zup_at]
    by_cases hjk : j = k
    · subst hjk; simp [hb]
    · have : ¬ (j + 1 = k + 1) := by omega
      simp only [this, and_false, if_false]
      exact h2 j (by omega)
  · obtain ⟨k', g1, g2, g3⟩ := h3 j hj
    exact ⟨k', by omega, by rw [zup_ne _ _ _ (by decide)]; exact g2, g3⟩
  · have : k' ≠ k := fun h => by rw [h, hb] at hb'; cases hb'
    obtain ⟨j, g1, g2⟩ := h4 k' (by omega) hb'
    exact ⟨j, g1, by rw [zup_ne _ _ _ (by decide)]; exact g2⟩
theorem mIni_yes {K G : Nat → Bool} {μ μ1 : zM} {k w : Nat} (h : mIni K G μ k w μ1) (hb : (K k && G k) = true) : mIni K G μ (k + 1) (w + 1) (zup (zup μ1 20 (k + 1) 0) 25 w ((k + 1 : Nat) : Int)) := by
  obtain ⟨h1, h2, h3, h4, h5⟩ := h
  have m25 : ∀ j, zup (zup μ1 20 (k + 1) 0) 25 w ((k + 1 : Nat) : Int) 25 j = if j = w then ((k + 1 : Nat) : Int) else μ1 25 j := by
    intro j
    rw [zup_at]
    by_cases hj : j = w
    · simp [hj]
    · simp only [hj, and_false, if_false]
      rw [zup_ne _ _ _ (by decide)]
  refine ⟨by show w + 1 + (cnt _ k + (if (!(K k && G k)) = true then 1 else 0)) = k + 1; rw [hb]; simp only [Bool.not_true, Bool.false_eq_true, if_false]; omega, fun j hj => ?_, fun j hj => ?_, fun k' hk' hb' => ?_, fun q q1 q2 => by rw [zup_ne _ _ _ q2, zup_ne _ _ _ q1]; exact h5 q q1 q2⟩
  · rw [zup_ne _ _ _ (by decide), zup_at]
    by_cases hjk : j = k
    · subst hjk; simp [hb]
    · have : ¬ (j + 1 = k + 1) := by omega
      simp only [this, and_false, if_false]
      exact h2 j (by omega)
  · by_cases hjw : j = w
    · exact ⟨k, by omega, by rw [m25, if_pos hjw], hb⟩
    · obtain ⟨k', g1, g2, g3⟩ := h3 j (by omega)
      exact ⟨k', by omega, by rw [m25, if_neg hjw]; exact g2, g3⟩
  · by_cases hkk : k' = k
    · subst hkk
      exact ⟨w, by omega, by rw [m25, if_pos rfl]⟩
    · obtain ⟨j, g1, g2⟩ := h4 k' (by omega) hb'
      exact ⟨j, by omega, by rw [m25, if_neg (by omega)]; exact g2⟩
theorem mIni_end {g : gT} {K G : Nat → Bool} {μ μ1 : zM} {w : Nat} (h : mIni K G μ g.1.length w μ1) : mP g K G μ1 w := by
  obtain ⟨h1, h2, h3, h4, h5⟩ := h
  have z : ∀ j, j < w → μ1 20 (μ1 25 j).toNat = 0 := by
    intro j hj
    obtain ⟨k', g1, g2, g3⟩ := h3 j hj
    rw [g2, Int.toNat_natCast, h2 k' g1, if_pos g3]
  refine ⟨?_, fun j hj => ?_, fun k hk hk0 => ?_, fun k hk => ?_, fun j j' hjj hj' => by rw [z j (by omega), z j' hj']; exact Int.le_refl _, fun k hk hb => by rw [h2 k hk, if_pos hb]⟩
  · have : cnt (fun k => decide (μ1 20 (k + 1) = -1)) g.1.length = cnt (fun j => !(K j && G j)) g.1.length := by
      apply cnt_congr
      intro k hk
      rw [h2 k hk]
      cases K k && G k <;> simp
    omega
  · obtain ⟨k', g1, g2, g3⟩ := h3 j hj
    exact ⟨k', g1, g2, by rw [h2 k' g1, if_pos g3]; omega⟩
  · refine h4 k hk ?_
    rw [h2 k hk] at hk0
    cases hb : K k && G k
    · rw [hb] at hk0
      simp at hk0
    · rfl
  · cases hb : K k && G k
    · exact Or.inl (by rw [h2 k hk, hb]; rfl)
    · obtain ⟨j, g1, -⟩ := h4 k hk hb
      exact Or.inr ⟨0, by omega, by rw [h2 k hk, if_pos hb]; rfl, hb⟩
/-- the first i nodes of the queue are done -/
def mDone (g : gT) (K : Nat → Bool) (μ : zM) (i : Nat) : Prop := ∀ j, j < i → ∀ p e, p < g.1.length → K p = true → e < 12 → gTo g (12 * (p + 1) + e) = (μ 25 j).toNat → 0 ≤ μ 20 (p + 1) ∧ μ 20 (p + 1) ≤ μ 20 (μ 25 j).toNat + 1
theorem mDone_step {g : gT} {K G : Nat → Bool} {μ μ1 : zM} {i w w1 u : Nat} (h : mDone g K μ i) (hP : mP g K G μ w) (hi : i < w) (hq : μ 25 i = ((u + 1 : Nat) : Int)) (hu : u < g.1.length) (hu0 : 0 ≤ μ 20 (u + 1)) (he : mExt g.1.length μ μ1 w w1)
    (hb : ∀ k, k < g.1.length → 0 ≤ μ1 20 (k + 1) → μ1 20 (k + 1) ≤ μ 20 (u + 1) + 1) (hd : ∀ p e, p < g.1.length → K p = true → e < 12 → gTo g (12 * (p + 1) + e) = u + 1 → 0 ≤ μ1 20 (p + 1)) : mDone g K μ1 (i + 1) := by
  intro j hj p e hp hK he' ht
  rw [he.2.1 j (by omega)] at ht ⊢
  by_cases hji : j = i
  · subst hji
    rw [hq, Int.toNat_natCast] at ht ⊢
    have h0 := hd p e hp hK he' ht
    rw [he.1 u hu hu0]
    exact ⟨h0, hb p hp h0⟩
  · obtain ⟨g1, g2⟩ := h j (by omega) p e hp hK he' ht
    obtain ⟨k, q1, q2, q3⟩ := hP.2.1 j (by omega)
    rw [he.1 p hp g1, q2, Int.toNat_natCast, he.1 k q1 q3]
    rw [q2, Int.toNat_natCast] at g2
    exact ⟨g1, g2⟩
set_option maxRecDepth 100000 in
set_option maxHeartbeats 4000000 in
theorem m_G_measure (l : Launch) (μ : zM) {g : gT} {K G : Nat → Bool} (hG : gRep g μ) (hK : ∀ k, k < g.1.length → μ 19 (k + 1) = zB (K k)) (hM : ∀ k, k < g.1.length → μ 18 (k + 1) = zB (G k)) (hn : g.1.length ≤ 200) (hES : g.2.1.length ≤ 2400) :
    zC l y_G_measure b_G_measure 4 none [] 1 0 26 false [zp 15] μ (zRv (fun μ' => (∀ k, k < g.1.length → mDist (fun k e => gTo g (12 * (k + 1) + e)) K G k (μ' 20 (k + 1))) ∧ ∀ q, q ≠ 20 → q ≠ 25 → μ' q = μ q)) := by
  refine zC.of (own := n_G) (L := [some (zp 15), none, none, none]) (by decide) rfl (by simp [zcat]) (Nat.le_of_ble_eq_true rfl) rfl (fun Γ => ?_)
  refine zU_iconst d_G_measure_0 ?_
  refine zU_istore_n d_G_measure_1 (by decide) ?_
  refine zU.eqL (L' := [some (zp 15), some (zi 0), none, none]) rfl ?_
  refine zU_iconst d_G_measure_2 ?_
  refine zU_istore_n d_G_measure_3 (by decide) ?_
  refine zU.eqL (L' := [some (zp 15), some (zi 0), some (zi 1), none]) rfl ?_
  have hJ4 : ∀ (d : Nat) (k w : Nat) (μ1 : zM), k + d = g.1.length → mIni K G μ k w μ1 → zU Γ b_G_measure n_G 4 none [] (zRm 1 0 26) 0 0 (zFin Γ 0 false (zRv (fun μ' => (∀ k, k < g.1.length → mDist (fun k e => gTo g (12 * (k + 1) + e)) K G k (μ' 20 (k + 1))) ∧ ∀ q, q ≠ 20 → q ≠ 25 → μ' q = μ q))) false 0 μ1 4 [some (zp 15), some (zi (w : Int)), some (zi ((k + 1 : Nat) : Int)), none] [] := by
    intro d
    induction d using Nat.strongRecOn with
    | _ d ih4 =>
      intro k w μ1 hd hI
      have hq := hI.2.2.2.2
      have hw : w ≤ k := by have := hI.1; omega
      refine zU_iload_n d_G_measure_4 rfl ?_
      refine zU_aload_n d_G_measure_5 rfl ?_
      refine zU_getI (v := (g.1.length : Int)) d_G_measure_6 f_G_43 (by decide) rfl rfl (by rw [hq 15 (by decide) (by decide)]; exact hG.1.1) ?_
      refine zU_icmp_gt 71 d_G_measure_9 (by decide) (by omega) (by omega) (fun h9 => ?_) (fun h9 => ?_)
      · refine zU_iconst d_G_measure_71 ?_
        refine zU_istore_n d_G_measure_72 (by decide) ?_
        refine zU.eqL (L' := [some (zp 15), some (zi (w : Int)), some (zi 0), none]) rfl ?_
        have hJ73 : ∀ (d : Nat) (i w : Nat) (μ1 : zM), i + d = g.1.length → mP g K G μ1 w → i ≤ w → (i < w → ∀ k, k < g.1.length → 0 ≤ μ1 20 (k + 1) → μ1 20 (k + 1) ≤ μ1 20 (μ1 25 i).toNat + 1) → mDone g K μ1 i → (∀ q, q ≠ 20 → q ≠ 25 → μ1 q = μ q) → zU Γ b_G_measure n_G 4 none [] (zRm 1 0 26) 0 0 (zFin Γ 0 false (zRv (fun μ' => (∀ k, k < g.1.length → mDist (fun k e => gTo g (12 * (k + 1) + e)) K G k (μ' 20 (k + 1))) ∧ ∀ q, q ≠ 20 → q ≠ 25 → μ' q = μ q))) false 0 μ1 73 [some (zp 15), some (zi (w : Int)), some (zi (i : Int)), none] [] := by
          intro d
          induction d using Nat.strongRecOn with
          | _ d ih73 =>
            intro i w μ1 hd hP hiw hbn hdn hq
            have hw := mP_w hP
            refine zU_iload_n d_G_measure_73 rfl ?_
            refine zU_iload_n d_G_measure_74 rfl ?_
            refine zU_icmp_ge 103 d_G_measure_75 (by decide) (by omega) (by omega) (fun h75 => ?_) (fun h75 => ?_)
            · exact zU_return d_G_measure_103 rfl (by decide) (by decide) (⟨rfl, mP_done hP hn (fun k e hk he => (gTo_eq hG (by omega) (by omega)).2) (fun j hj p e hp hKp he ht => hdn j (by omega) p e hp hKp he ht), hq⟩)
            · refine zU_iload_n d_G_measure_78 rfl ?_
              refine zU_sipush d_G_measure_79 (by decide) ?_
              refine zU_icmp_ge 103 d_G_measure_82 (by decide) (by omega) (by omega) (fun h82 => ?_) (fun h82 => ?_)
              · exfalso; omega
              · obtain ⟨u, hu, hqi, hu0⟩ := hP.2.1 i (by omega)
                have hG1 : gRep g μ1 := gRep_congr hG (fun q h => hq q (by omega) (by omega))
                have hbu := hbn (by omega)
                rw [hqi, Int.toNat_natCast] at hbu
                refine zU_aload_n d_G_measure_85 rfl ?_
                refine zU_aload_n d_G_measure_86 rfl ?_
                refine zU_getR 25 d_G_measure_87 f_G_40 (by decide) rfl rfl rfl ?_
                refine zU_iload_n d_G_measure_90 rfl ?_
                refine zU_iald (v := ((u + 1 : Nat) : Int)) d_G_measure_91 (by decide) rfl (by decide) (by omega) (hqi) ?_
                refine zU_iload_n d_G_measure_92 rfl ?_
                refine zU_callVi (p0 := 15) [zi (((u + 1 : Nat) : Int)), zi (w : Int)] d_G_measure_93 k_G_51 rfl (by decide) rfl rfl (by decide) (Nat.le_of_ble_eq_true rfl) (fun l => m_G_measureInto l μ1 (G := G) hG1 (fun k hk => by rw [hq 19 (by decide) (by decide)]; exact hK k hk) hn hES hP hu hu0 hbu) (fun r93 μ93 h93 => ?_)
                obtain ⟨w1, hr93, hP93, he93, hb93, hd93⟩ := h93
                subst hr93
                refine zU_istore_n d_G_measure_96 (by decide) ?_
                refine zU.eqL (L' := [some (zp 15), some (zi ((w1 : Int))), some (zi (i : Int)), none]) rfl ?_
                refine zU_iinc d_G_measure_97 rfl ?_
                refine zU.eqL (L' := [some (zp 15), some (zi ((w1 : Int))), some (zi (((i + 1 : Nat) : Int))), none]) (by first | rfl | (show _ = _; simp only [List.set]; congr 3; omega)) ?_
                refine zU_goto 73 d_G_measure_100 (by decide) ?_
                exact ih73 (d - 1) (by omega) (i + 1) w1 μ93 (by omega) hP93 (by have := he93.2.2.1; omega) (fun hw1 k hk hk0 => by have h9 := hb93 k hk hk0; have h8 := hP93.2.2.2.2.1 i (i + 1) (by omega) hw1; rw [he93.2.1 i (by omega), hqi, Int.toNat_natCast, he93.1 u hu hu0] at h8; omega) (mDone_step hdn hP (by omega) hqi hu hu0 he93 hb93 hd93) (fun q q1 q2 => by rw [he93.2.2.2 q q1 q2]; exact hq q q1 q2)
        exact hJ73 g.1.length 0 w μ1 (by omega) (by have hkn : k = g.1.length := (by omega); subst hkn; exact mIni_end hI) (by omega) (fun hw0 k' hk' hk0 => by have hkn : k = g.1.length := (by omega); subst hkn; have hP := mIni_end hI; obtain ⟨j, g1, g2⟩ := hP.2.2.1 k' hk' hk0; obtain ⟨k2, q1, q2, q3⟩ := hI.2.2.1 j g1; have : k' = k2 := (by omega); subst this; rw [hI.2.1 k' q1, if_pos q3]; obtain ⟨k3, p1, p2, p3⟩ := hI.2.2.1 0 hw0; rw [p2, Int.toNat_natCast, hI.2.1 k3 p1, if_pos p3]; omega) (fun j hj => absurd hj (by omega)) hI.2.2.2.2
      · refine zU_aload_n d_G_measure_12 rfl ?_
        refine zU_getR 19 d_G_measure_13 f_G_22 (by decide) rfl rfl rfl ?_
        refine zU_iload_n d_G_measure_16 rfl ?_
        refine zU_zald (v := zB (K k)) d_G_measure_17 (by decide) rfl (by decide) (by omega) (by rw [hq 19 (by decide) (by decide)]; exact hK k (by omega)) ?_
        have hJ35 : zU Γ b_G_measure n_G 4 none [] (zRm 1 0 26) 0 0 (zFin Γ 0 false (zRv (fun μ' => (∀ k, k < g.1.length → mDist (fun k e => gTo g (12 * (k + 1) + e)) K G k (μ' 20 (k + 1))) ∧ ∀ q, q ≠ 20 → q ≠ 25 → μ' q = μ q))) false 0 μ1 35 [some (zp 15), some (zi (w : Int)), some (zi ((k + 1 : Nat) : Int)), none] [zi (zB (K k && G k))] := by
          refine zU_istore_n d_G_measure_35 (by decide) ?_
          refine zU.eqL (L' := [some (zp 15), some (zi (w : Int)), some (zi ((k + 1 : Nat) : Int)), some (zi (zB (K k && G k)))]) rfl ?_
          refine zU_aload_n d_G_measure_36 rfl ?_
          refine zU_getR 20 d_G_measure_37 f_G_25 (by decide) rfl rfl rfl ?_
          refine zU_iload_n d_G_measure_40 rfl ?_
          refine zU_iload_n d_G_measure_41 rfl ?_
          refine zU_if_eq 49 d_G_measure_42 (by decide) (zBr _) (fun h42 => ?_) (fun h42 => ?_)
          · refine zU_iconst d_G_measure_49 ?_
            refine zU_iast d_G_measure_50 (by decide) rfl (by decide) (by omega) ?_
            refine zU.eqM (μ' := zup μ1 20 (k + 1) (-1)) rfl ?_
            refine zU_iload_n d_G_measure_51 rfl ?_
            refine zU_if_eq 65 d_G_measure_52 (by decide) (zBr _) (fun h52 => ?_) (fun h52 => ?_)
            · refine zU_iinc d_G_measure_65 rfl ?_
              refine zU.eqL (L' := [some (zp 15), some (zi (w : Int)), some (zi (((k + 1 + 1 : Nat) : Int))), some (zi (zB (K k && G k)))]) (by first | rfl | (show _ = _; simp only [List.set]; congr 3; omega)) ?_
              refine zU_goto 4 d_G_measure_68 (by decide) ?_
              refine zU.drop 3 (L' := [some (zp 15), some (zi (w : Int)), some (zi (((k + 1 + 1 : Nat) : Int))), none]) rfl ?_
              exact ih4 (d - 1) (by omega) (k + 1) w _ (by omega) (mIni_no hI (zB_zero.mp h42))
            · exact absurd h42 h52
          · refine zU_iconst d_G_measure_45 ?_
            refine zU_goto 50 d_G_measure_46 (by decide) ?_
            refine zU_iast d_G_measure_50 (by decide) rfl (by decide) (by omega) ?_
            refine zU.eqM (μ' := zup μ1 20 (k + 1) 0) rfl ?_
            refine zU_iload_n d_G_measure_51 rfl ?_
            refine zU_if_eq 65 d_G_measure_52 (by decide) (zBr _) (fun h52 => ?_) (fun h52 => ?_)
            · exact absurd h52 h42
            · refine zU_aload_n d_G_measure_55 rfl ?_
              refine zU_getR 25 d_G_measure_56 f_G_40 (by decide) rfl rfl rfl ?_
              refine zU_iload_n d_G_measure_59 rfl ?_
              refine zU_iload_n d_G_measure_60 rfl ?_
              refine zU_iast d_G_measure_61 (by decide) rfl (by decide) (by omega) ?_
              refine zU.eqM (μ' := zup (zup μ1 20 (k + 1) 0) 25 w ((k + 1 : Nat) : Int)) rfl ?_
              refine zU_iinc d_G_measure_62 rfl ?_
              refine zU.eqL (L' := [some (zp 15), some (zi (((w + 1 : Nat) : Int))), some (zi ((k + 1 : Nat) : Int)), some (zi (zB (K k && G k)))]) (by first | rfl | (show _ = _; simp only [List.set]; congr 3; omega)) ?_
              refine zU_iinc d_G_measure_65 rfl ?_
              refine zU.eqL (L' := [some (zp 15), some (zi (((w + 1 : Nat) : Int))), some (zi (((k + 1 + 1 : Nat) : Int))), some (zi (zB (K k && G k)))]) (by first | rfl | (show _ = _; simp only [List.set]; congr 3; omega)) ?_
              refine zU_goto 4 d_G_measure_68 (by decide) ?_
              refine zU.drop 3 (L' := [some (zp 15), some (zi (((w + 1 : Nat) : Int))), some (zi (((k + 1 + 1 : Nat) : Int))), none]) rfl ?_
              exact ih4 (d - 1) (by omega) (k + 1) (w + 1) _ (by omega) (mIni_yes hI (zB_nz.mp h42))
        refine zU_if_eq 34 d_G_measure_18 (by decide) (zBr _) (fun h18 => ?_) (fun h18 => ?_)
        · refine zU_iconst d_G_measure_34 ?_
          refine zU.eqS (st' := [zi (zB (K k && G k))]) (by rw [zB_zero.mp h18]; rfl) ?_
          exact hJ35 
        · refine zU_aload_n d_G_measure_21 rfl ?_
          refine zU_getR 18 d_G_measure_22 f_G_18 (by decide) rfl rfl rfl ?_
          refine zU_iload_n d_G_measure_25 rfl ?_
          refine zU_zald (v := zB (G k)) d_G_measure_26 (by decide) rfl (by decide) (by omega) (by rw [hq 18 (by decide) (by decide)]; exact hM k (by omega)) ?_
          refine zU_if_eq 34 d_G_measure_27 (by decide) (zBr _) (fun h27 => ?_) (fun h27 => ?_)
          · refine zU_iconst d_G_measure_34 ?_
            refine zU.eqS (st' := [zi (zB (K k && G k))]) (by rw [zB_zero.mp h27, Bool.and_false]; rfl) ?_
            exact hJ35 
          · refine zU_iconst d_G_measure_30 ?_
            refine zU_goto 35 d_G_measure_31 (by decide) ?_
            refine zU.eqS (st' := [zi (zB (K k && G k))]) (by rw [zB_nz.mp h18, zB_nz.mp h27]; rfl) ?_
            exact hJ35 
  refine zU.loose ?_
  exact hJ4 g.1.length 0 0 μ (by omega) ⟨rfl, fun j hj => absurd hj (by omega), fun j hj => absurd hj (by omega), fun j hj => absurd hj (by omega), fun _ _ _ => rfl⟩
set_option maxRecDepth 100000 in
set_option maxHeartbeats 4000000 in
theorem m_G_dropDeadEnds (l : Launch) (μ : zM) {g : gT} {K : Nat → Bool} (hG : gRep g μ) (hK : ∀ k, k < g.1.length → μ 19 (k + 1) = zB (K k)) (hn : g.1.length ≤ 200) (hD : ∀ k, k < g.1.length → -2147483648 ≤ μ 20 (k + 1) ∧ μ 20 (k + 1) ≤ 2147483647) :
    zC l y_G_dropDeadEnds b_G_dropDeadEnds 3 (some .boolean) [] 0 0 0 false [zp 15] μ (zRi (fun r μ' => r = zB ((List.range g.1.length).any (fun k => K k && decide (μ 20 (k + 1) = -1))) ∧ (∀ k, k < g.1.length → μ' 19 (k + 1) = zB (K k && !decide (μ 20 (k + 1) = -1))) ∧ ∀ q, q ≠ 19 → μ' q = μ q)) := by
  refine zC.of (own := n_G) (L := [some (zp 15), none, none]) (by decide) rfl (by simp [zcat]) (Nat.le_of_ble_eq_true rfl) rfl (fun Γ => ?_)
  refine zU_iconst d_G_dropDeadEnds_0 ?_
  refine zU_istore_n d_G_dropDeadEnds_1 (by decide) ?_
  refine zU.eqL (L' := [some (zp 15), some (zi 0), none]) rfl ?_
  refine zU_iconst d_G_dropDeadEnds_2 ?_
  refine zU_istore_n d_G_dropDeadEnds_3 (by decide) ?_
  refine zU.eqL (L' := [some (zp 15), some (zi 0), some (zi 1)]) rfl ?_
  have hJ4 : ∀ (d : Nat) (k : Nat) (x : Int) (μ1 : zM), k + d = g.1.length → x = zB ((List.range k).any (fun k => K k && decide (μ 20 (k + 1) = -1))) → (∀ j, j < g.1.length → μ1 19 (j + 1) = zB (K j && !(decide (j < k) && decide (μ 20 (j + 1) = -1)))) → (∀ q, q ≠ 19 → μ1 q = μ q) → zU Γ b_G_dropDeadEnds n_G 3 (some .boolean) [] (zRm 0 0 0) 0 0 (zFin Γ 0 false (zRi (fun r μ' => r = zB ((List.range g.1.length).any (fun k => K k && decide (μ 20 (k + 1) = -1))) ∧ (∀ k, k < g.1.length → μ' 19 (k + 1) = zB (K k && !decide (μ 20 (k + 1) = -1))) ∧ ∀ q, q ≠ 19 → μ' q = μ q))) false 0 μ1 4 [some (zp 15), some (zi x), some (zi ((k + 1 : Nat) : Int))] [] := by
    intro d
    induction d using Nat.strongRecOn with
    | _ d ih4 =>
      intro k x μ1 hd hx hk1 hq
      refine zU_iload_n d_G_dropDeadEnds_4 rfl ?_
      refine zU_aload_n d_G_dropDeadEnds_5 rfl ?_
      refine zU_getI (v := (g.1.length : Int)) d_G_dropDeadEnds_6 f_G_43 (by decide) rfl rfl (by rw [hq 15 (by decide)]; exact hG.1.1) ?_
      refine zU_icmp_gt 46 d_G_dropDeadEnds_9 (by decide) (by omega) (by omega) (fun h9 => ?_) (fun h9 => ?_)
      · refine zU_iload_n d_G_dropDeadEnds_46 rfl ?_
        exact zU_ireturn d_G_dropDeadEnds_47 (Or.inr ⟨rfl, by rw [hx]; exact zB_or _⟩) (by decide) (by decide) (⟨_, rfl, by have hkn : k = g.1.length := (by omega); subst hkn; exact ⟨hx, fun j hj => by rw [hk1 j hj]; simp [hj], hq⟩⟩)
      · refine zU_aload_n d_G_dropDeadEnds_12 rfl ?_
        refine zU_getR 19 d_G_dropDeadEnds_13 f_G_22 (by decide) rfl rfl rfl ?_
        refine zU_iload_n d_G_dropDeadEnds_16 rfl ?_
        refine zU_zald (v := zB (K k)) d_G_dropDeadEnds_17 (by decide) rfl (by decide) (by omega) ((hk1 k (by omega)).trans (by simp)) ?_
        refine zU_if_eq 40 d_G_dropDeadEnds_18 (by decide) (zBr _) (fun h18 => ?_) (fun h18 => ?_)
        · refine zU_iinc d_G_dropDeadEnds_40 rfl ?_
          refine zU.eqL (L' := [some (zp 15), some (zi x), some (zi (((k + 1 + 1 : Nat) : Int)))]) (by first | rfl | (show _ = _; simp only [List.set]; congr 3; omega)) ?_
          refine zU_goto 4 d_G_dropDeadEnds_43 (by decide) ?_
          exact ih4 (d - 1) (by omega) (k + 1) x μ1 (by omega) (by rw [hx, rng_any, zB_zero.mp h18]; simp) (fun j hj => by rw [hk1 j hj]; by_cases h : j = k; { subst h; simp [zB_zero.mp h18] }; { have : (j < k + 1) ↔ (j < k) := (by omega); simp [this] }) hq
        · refine zU_aload_n d_G_dropDeadEnds_21 rfl ?_
          refine zU_getR 20 d_G_dropDeadEnds_22 f_G_25 (by decide) rfl rfl rfl ?_
          refine zU_iload_n d_G_dropDeadEnds_25 rfl ?_
          refine zU_iald (v := μ 20 (k + 1)) d_G_dropDeadEnds_26 (by decide) rfl (by decide) (by omega) (by rw [hq 20 (by decide)]; rfl) ?_
          refine zU_iconst d_G_dropDeadEnds_27 ?_
          refine zU_icmp_ne 40 d_G_dropDeadEnds_28 (by decide) (by first | omega | exact hD k (by omega)) (by first | omega | exact hD k (by omega)) (fun h28 => ?_) (fun h28 => ?_)
          · refine zU_iinc d_G_dropDeadEnds_40 rfl ?_
            refine zU.eqL (L' := [some (zp 15), some (zi x), some (zi (((k + 1 + 1 : Nat) : Int)))]) (by first | rfl | (show _ = _; simp only [List.set]; congr 3; omega)) ?_
            refine zU_goto 4 d_G_dropDeadEnds_43 (by decide) ?_
            exact ih4 (d - 1) (by omega) (k + 1) x μ1 (by omega) (by rw [hx, rng_any]; simp [h28]) (fun j hj => by rw [hk1 j hj]; by_cases h : j = k; { subst h; simp [h28] }; { have : (j < k + 1) ↔ (j < k) := (by omega); simp [this] }) hq
          · refine zU_aload_n d_G_dropDeadEnds_31 rfl ?_
            refine zU_getR 19 d_G_dropDeadEnds_32 f_G_22 (by decide) rfl rfl rfl ?_
            refine zU_iload_n d_G_dropDeadEnds_35 rfl ?_
            refine zU_iconst d_G_dropDeadEnds_36 ?_
            refine zU_zast d_G_dropDeadEnds_37 (by decide) rfl (by decide) (by omega) (by omega) ?_
            refine zU.eqM (μ' := zup μ1 19 (k + 1) 0) rfl ?_
            refine zU_iconst d_G_dropDeadEnds_38 ?_
            refine zU_istore_n d_G_dropDeadEnds_39 (by decide) ?_
            refine zU.eqL (L' := [some (zp 15), some (zi 1), some (zi ((k + 1 : Nat) : Int))]) rfl ?_
            refine zU_iinc d_G_dropDeadEnds_40 rfl ?_
            refine zU.eqL (L' := [some (zp 15), some (zi 1), some (zi (((k + 1 + 1 : Nat) : Int)))]) (by first | rfl | (show _ = _; simp only [List.set]; congr 3; omega)) ?_
            refine zU_goto 4 d_G_dropDeadEnds_43 (by decide) ?_
            exact ih4 (d - 1) (by omega) (k + 1) 1 _ (by omega) (by rw [rng_any, zB_nz.mp h18]; simp [h28, zB]) (fun j hj => by rw [zup_at]; by_cases h : j = k; { subst h; simp [h28, zB] }; { have h2 : (j < k + 1) ↔ (j < k) := (by omega); have h3 : ¬ (j + 1 = k + 1) := (by omega); simp only [h3, and_false, if_false, h2]; exact hk1 j hj }) (fun q q1 => by rw [zup_ne _ _ _ q1]; exact hq q q1)
  refine zU.loose ?_
  exact hJ4 g.1.length 0 0 μ (by omega) rfl (fun j hj => by rw [hK j hj]; simp) (fun _ _ => rfl)
set_option maxRecDepth 100000 in
set_option maxHeartbeats 4000000 in
theorem m_G_countKept (l : Launch) (μ : zM) {g : gT} {K : Nat → Bool} (hG : gRep g μ) (hK : ∀ k, k < g.1.length → μ 19 (k + 1) = zB (K k)) (hn : g.1.length ≤ 200) :
    zC l y_G_countKept b_G_countKept 3 (some .int) [] 0 0 0 true [zp 15] μ (zRi (fun r μ' => μ' = μ ∧ r = (cnt K g.1.length : Int))) := by
  refine zC.of (own := n_G) (L := [some (zp 15), none, none]) (by decide) rfl (by simp [zcat]) (Nat.le_of_ble_eq_true rfl) rfl (fun Γ => ?_)
  refine zU_iconst d_G_countKept_0 ?_
  refine zU_istore_n d_G_countKept_1 (by decide) ?_
  refine zU.eqL (L' := [some (zp 15), some (zi 0), none]) rfl ?_
  refine zU_iconst d_G_countKept_2 ?_
  refine zU_istore_n d_G_countKept_3 (by decide) ?_
  refine zU.eqL (L' := [some (zp 15), some (zi 0), some (zi 1)]) rfl ?_
  have hJ4 : ∀ (d : Nat) (k x : Nat), k + d = g.1.length → x = cnt K k → zU Γ b_G_countKept n_G 3 (some .int) [] (zRm 0 0 0) 0 0 (zFin Γ 0 true (zRi (fun r μ' => μ' = μ ∧ r = (cnt K g.1.length : Int)))) true 0 μ 4 [some (zp 15), some (zi (x : Int)), some (zi ((k + 1 : Nat) : Int))] [] := by
    intro d
    induction d using Nat.strongRecOn with
    | _ d ih4 =>
      intro k x hd hx
      refine zU_iload_n d_G_countKept_4 rfl ?_
      refine zU_aload_n d_G_countKept_5 rfl ?_
      refine zU_getI (v := (g.1.length : Int)) d_G_countKept_6 f_G_43 (by decide) rfl rfl (hG.1.1) ?_
      refine zU_icmp_gt 30 d_G_countKept_9 (by decide) (by omega) (by omega) (fun h9 => ?_) (fun h9 => ?_)
      · refine zU_iload_n d_G_countKept_30 rfl ?_
        exact zU_ireturn d_G_countKept_31 (Or.inl rfl) (by decide) (by decide) (⟨_, rfl, rfl, by have hkn : k = g.1.length := (by omega); subst hkn; rw [hx]⟩)
      · refine zU_aload_n d_G_countKept_12 rfl ?_
        refine zU_getR 19 d_G_countKept_13 f_G_22 (by decide) rfl rfl rfl ?_
        refine zU_iload_n d_G_countKept_16 rfl ?_
        refine zU_zald (v := zB (K k)) d_G_countKept_17 (by decide) rfl (by decide) (by omega) (hK k (by omega)) ?_
        refine zU_if_eq 24 d_G_countKept_18 (by decide) (zBr _) (fun h18 => ?_) (fun h18 => ?_)
        · refine zU_iinc d_G_countKept_24 rfl ?_
          refine zU.eqL (L' := [some (zp 15), some (zi (x : Int)), some (zi (((k + 1 + 1 : Nat) : Int)))]) (by first | rfl | (show _ = _; simp only [List.set]; congr 3; omega)) ?_
          refine zU_goto 4 d_G_countKept_27 (by decide) ?_
          exact ih4 (d - 1) (by omega) (k + 1) x (by omega) (by simp only [cnt, zB_zero.mp h18]; simp; exact hx)
        · refine zU_iinc d_G_countKept_21 rfl ?_
          refine zU.eqL (L' := [some (zp 15), some (zi (((x + 1 : Nat) : Int))), some (zi ((k + 1 : Nat) : Int))]) (by first | rfl | (show _ = _; simp only [List.set]; congr 3; omega)) ?_
          refine zU_iinc d_G_countKept_24 rfl ?_
          refine zU.eqL (L' := [some (zp 15), some (zi (((x + 1 : Nat) : Int))), some (zi (((k + 1 + 1 : Nat) : Int)))]) (by first | rfl | (show _ = _; simp only [List.set]; congr 3; omega)) ?_
          refine zU_goto 4 d_G_countKept_27 (by decide) ?_
          exact ih4 (d - 1) (by omega) (k + 1) (x + 1) (by omega) (by simp only [cnt, zB_nz.mp h18]; simp; exact hx)
  exact hJ4 g.1.length 0 0 (by omega) rfl
