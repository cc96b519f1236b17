theorem zB_inj {b c : Bool} (h : zB b = zB c) : b = c := by cases b <;> cases c <;> first | rfl | (simp [zB] at h)
theorem rRep_ini {a : aT} {i : Nat} {v : Int} {μ μ' : zM} (h : rRep a μ) (h51 : μ' 51 1 = μ 51 1) (hq : ∀ q, 52 ≤ q → q ≤ 59 → q ≠ 54 → μ' q = μ q) (h54 : ∀ j, μ' 54 j = if j = i then v else μ 54 j) : rRep (aIni a i v) μ' := by
  obtain ⟨g1, g2, g3⟩ := h
  refine ⟨by rw [h51]; exact g1, fun i' hi' => ?_, by rw [hq 58 (by omega) (by omega) (by omega), hq 59 (by omega) (by omega) (by omega)]; exact g3⟩
  obtain ⟨q1, q2, q3, q4⟩ := g2 i' hi'
  refine ⟨by rw [hq 52 (by omega) (by omega) (by omega)]; exact q1, by rw [hq 53 (by omega) (by omega) (by omega)]; exact q2, ?_, by rw [hq 55 (by omega) (by omega) (by omega), hq 56 (by omega) (by omega) (by omega), hq 57 (by omega) (by omega) (by omega)]; exact q4⟩
  rw [h54]
  by_cases hc : i' = i
  · simp [aIni, aI, hc]
  · rw [if_neg hc, q3]
    simp [aIni, aI, hc]
theorem rRep_mrk {a : aT} {i s : Nat} {b : Bool} {μ μ' : zM} (h : rRep a μ) (hs : s < 6) (h51 : μ' 51 1 = μ 51 1) (hq : ∀ q, 52 ≤ q → q ≤ 59 → q ≠ 55 → μ' q = μ q) (h55 : ∀ j, μ' 55 j = if j = 6 * i + s then zB b else μ 55 j) : rRep (aMrk a i s b) μ' := by
  obtain ⟨g1, g2, g3⟩ := h
  refine ⟨by rw [h51]; exact g1, fun i' hi' => ?_, by rw [hq 58 (by omega) (by omega) (by omega), hq 59 (by omega) (by omega) (by omega)]; exact g3⟩
  obtain ⟨q1, q2, q3, q4⟩ := g2 i' hi'
  refine ⟨by rw [hq 52 (by omega) (by omega) (by omega)]; exact q1, by rw [hq 53 (by omega) (by omega) (by omega)]; exact q2, by rw [hq 54 (by omega) (by omega) (by omega)]; exact q3, fun s' hs' => ⟨?_, by rw [hq 56 (by omega) (by omega) (by omega)]; exact (q4 s' hs').2.1, by rw [hq 57 (by omega) (by omega) (by omega)]; exact (q4 s' hs').2.2⟩⟩
  rw [h55]
  by_cases hc : i' = i ∧ s' = s
  · obtain ⟨rfl, rfl⟩ := hc
    simp [aMrk, aM]
  · rw [if_neg (by omega), (q4 s' hs').1]
    simp [aMrk, aM, hc]
theorem rRep_fbd {a : aT} {i s : Nat} {b : Bool} {μ μ' : zM} (h : rRep a μ) (hs : s < 6) (h51 : μ' 51 1 = μ 51 1) (hq : ∀ q, 52 ≤ q → q ≤ 59 → q ≠ 56 → μ' q = μ q) (h56 : ∀ j, μ' 56 j = if j = 6 * i + s then zB b else μ 56 j) : rRep (aFbd a i s b) μ' := by
  obtain ⟨g1, g2, g3⟩ := h
  refine ⟨by rw [h51]; exact g1, fun i' hi' => ?_, by rw [hq 58 (by omega) (by omega) (by omega), hq 59 (by omega) (by omega) (by omega)]; exact g3⟩
  obtain ⟨q1, q2, q3, q4⟩ := g2 i' hi'
  refine ⟨by rw [hq 52 (by omega) (by omega) (by omega)]; exact q1, by rw [hq 53 (by omega) (by omega) (by omega)]; exact q2, by rw [hq 54 (by omega) (by omega) (by omega)]; exact q3, fun s' hs' => ⟨by rw [hq 55 (by omega) (by omega) (by omega)]; exact (q4 s' hs').1, ?_, by rw [hq 57 (by omega) (by omega) (by omega)]; exact (q4 s' hs').2.2⟩⟩
  rw [h56]
  by_cases hc : i' = i ∧ s' = s
  · obtain ⟨rfl, rfl⟩ := hc
    simp [aFbd, aF]
  · rw [if_neg (by omega), (q4 s' hs').2.1]
    simp [aFbd, aF, hc]
set_option maxRecDepth 100000 in
set_option maxHeartbeats 4000000 in
theorem m_R_event (l : Launch) (μ : zM) {a : aT} (ha : aOk a) (hc : rRep a μ) {x : Int} {on : Bool} (hx : -2147483648 ≤ x ∧ x ≤ 2147483647) :
    zC l y_R_event b_R_event 4 (some .boolean) [] 1 0 22 false [zp 51, zi x, zi (zB on)] μ (zRi (fun r μ' => ((∃ e : Nat, x = e ∧ e < 12 ∧ ((aD a e = true ∧ aC a e = on ∧ r = 0 ∧ μ' = zup μ 51 0 0) ∨ (aD a e = false ∧ r = 1 ∧ μ' 51 0 = 0 ∧ rRep (aDecl a e on) μ' ∧ rNo μ'))) ∨ (μ' = zup μ 51 0 1 ∧ ¬ (0 ≤ x ∧ x < 12)) ∨ (μ' = zup μ 51 0 2 ∧ ∃ e : Nat, x = e ∧ e < 12 ∧ aD a e = true ∧ ¬ aC a e = on)) ∧ (∀ q, (q < 51 ∨ q = 76) → μ' q = μ q))) := by
  refine zC.of (own := n_R) (L := [some (zp 51), some (zi x), some (zi (zB on)), none]) (by decide) rfl (by simp [zcat]) (Nat.le_of_ble_eq_true rfl) rfl (fun Γ => ?_)
  obtain ⟨hN, hA, hE⟩ := id hc
  have hN4 := ha.1
  refine zU_iload_n d_R_event_0 rfl ?_
  refine zU_bipush d_R_event_1 (by decide) ?_
  refine zU_callSi [zi x, zi 12] d_R_event_3 k_R_94 rfl (by decide) (Nat.le_of_ble_eq_true rfl) (fun l => m_R_out l μ hx (by omega)) (fun r3 μ3 h3 => ?_)
  obtain ⟨hμ3, rfl⟩ := h3
  replace hμ3 := hμ3.symm
  subst hμ3
  refine zU_istore_n d_R_event_6 (by decide) ?_
  refine zU.eqL (L' := [some (zp 51), some (zi x), some (zi (zB on)), some (zi (zB (!decide (0 ≤ x ∧ x < 12))))]) rfl ?_
  refine zU_aload_n d_R_event_7 rfl ?_
  refine zU_iload_n d_R_event_8 rfl ?_
  refine zU_iload_n d_R_event_9 rfl ?_
  have hJ37 : zU Γ b_R_event n_R 4 (some .boolean) [] (zRm 1 0 22) 0 0 (zFin Γ 0 false (zRi (fun r μ' => ((∃ e : Nat, x = e ∧ e < 12 ∧ ((aD a e = true ∧ aC a e = on ∧ r = 0 ∧ μ' = zup μ 51 0 0) ∨ (aD a e = false ∧ r = 1 ∧ μ' 51 0 = 0 ∧ rRep (aDecl a e on) μ' ∧ rNo μ'))) ∨ (μ' = zup μ 51 0 1 ∧ ¬ (0 ≤ x ∧ x < 12)) ∨ (μ' = zup μ 51 0 2 ∧ ∃ e : Nat, x = e ∧ e < 12 ∧ aD a e = true ∧ ¬ aC a e = on)) ∧ (∀ q, (q < 51 ∨ q = 76) → μ' q = μ q)))) true 0 μ 37 [some (zp 51), some (zi x), some (zi (zB on)), some (zi (zB (!decide (0 ≤ x ∧ x < 12))))] [zi (zB (decide (0 ≤ x ∧ x < 12) && (aD a x.toNat && (aC a x.toNat != on)))), zi (zB (!decide (0 ≤ x ∧ x < 12))), zp 51] := by
    refine zU_callVi (p0 := 51) [zi (zB (!decide (0 ≤ x ∧ x < 12))), zi (zB (decide (0 ≤ x ∧ x < 12) && (aD a x.toNat && (aC a x.toNat != on))))] d_R_event_37 k_R_101 rfl (by decide) rfl rfl (by decide) (Nat.le_of_ble_eq_true rfl) (fun l => m_R_throwing l μ (p := !decide (0 ≤ x ∧ x < 12)) (q := decide (0 ≤ x ∧ x < 12) && (aD a x.toNat && (aC a x.toNat != on)))) (fun r37 μ37 h37 => ?_)
    obtain ⟨hr37, hμ37⟩ := h37
    subst hr37 hμ37
    refine zU_if_eq 45 d_R_event_40 (by decide) (zBr _) (fun h40 => ?_) (fun h40 => ?_)
    · have b40 := zB_zero.mp h40
      have b40' := b40
      rw [Bool.or_eq_false_iff] at b40'
      have g1 := nd_f b40'.1
      have g2 := b40'.2
      obtain ⟨e, hxe⟩ : ∃ e : Nat, x = (e : Int) := ⟨x.toNat, by omega⟩
      have he : e < 12 := by omega
      rw [hxe, Int.toNat_natCast] at g2
      refine zU.eqL (L' := [some (zp 51), some (zi (e : Int)), some (zi (zB on)), some (zi (zB (!decide (0 ≤ x ∧ x < 12))))]) (by rw [← hxe]) ?_
      refine zU_aload_n d_R_event_45 rfl ?_
      refine zU_getR 58 d_R_event_46 f_R_29 (by decide) rfl rfl rfl ?_
      refine zU_iload_n d_R_event_49 rfl ?_
      refine zU_zald (v := zB (aD a e)) d_R_event_50 (by decide) rfl (by decide) (by omega) (by rw [zup_ne _ _ _ (by decide)]; exact (hE e he).1) ?_
      refine zU_if_eq 56 d_R_event_51 (by decide) (zBr _) (fun h51 => ?_) (fun h51 => ?_)
      · have b51 := zB_zero.mp h51
        refine zU_aload_n d_R_event_56 rfl ?_
        refine zU_callVv (p0 := 51) [] d_R_event_57 k_R_105 rfl (by decide) rfl rfl (by decide) (Nat.le_of_ble_eq_true rfl) (fun l => m_R_change l _) (fun μ57 h57 => ?_)
        subst h57
        refine zU.eqM (μ' := (rChg μ 0)) (by rw [tcd_z b40]; rfl) ?_
        refine zU_aload_n d_R_event_60 rfl ?_
        refine zU_getR 58 d_R_event_61 f_R_29 (by decide) rfl rfl rfl ?_
        refine zU_iload_n d_R_event_64 rfl ?_
        refine zU_iconst d_R_event_65 ?_
        refine zU_zast d_R_event_66 (by decide) rfl (by decide) (by omega) (by omega) ?_
        refine zU.eqM (μ' := zup (rChg μ 0) 58 e 1) rfl ?_
        refine zU_aload_n d_R_event_67 rfl ?_
        refine zU_getR 59 d_R_event_68 f_R_32 (by decide) rfl rfl rfl ?_
        refine zU_iload_n d_R_event_71 rfl ?_
        refine zU_iload_n d_R_event_72 rfl ?_
        refine zU_zast d_R_event_73 (by decide) rfl (by decide) (by omega) (zB_or _) ?_
        refine zU.eqM (μ' := zup (zup (rChg μ 0) 58 e 1) 59 e (zB on)) rfl ?_
        refine zU_iconst d_R_event_74 ?_
        exact zU_ireturn d_R_event_75 (Or.inr ⟨rfl, by omega⟩) (by decide) (by decide) (⟨_, rfl, Or.inl ⟨e, hxe, he, Or.inr ⟨b51, rfl, by rw [zup_ne _ _ _ (by decide), zup_ne _ _ _ (by decide)]; exact (rChg_0 μ 0).1, rRep_decl hc (by rw [zup_ne _ _ _ (by decide), zup_ne _ _ _ (by decide)]; exact rChg_i μ 0 (by decide) (by decide) (by decide)) (fun q h1 h2 => by rw [zup_ne _ _ _ (by omega), zup_ne _ _ _ (by omega)]; exact rChg_q μ 0 (by omega)) (fun j => by rw [zup_ne _ _ _ (by decide), zup_at, rChg_q μ 0 (by decide)]; by_cases h : j = e <;> simp [h]) (fun j => by rw [zup_at, zup_ne _ _ _ (by decide), rChg_q μ 0 (by decide)]; by_cases h : j = e <;> simp [h]), by rw [zup_ne _ _ _ (by decide), zup_ne _ _ _ (by decide)]; exact (rChg_0 μ 0).2.1, by rw [zup_ne _ _ _ (by decide), zup_ne _ _ _ (by decide)]; exact (rChg_0 μ 0).2.2⟩⟩, fun q hq => by rw [zup_ne _ _ _ (by omega), zup_ne _ _ _ (by omega), rChg_q μ 0 (by omega)]⟩)
      · have b51 := zB_nz.mp h51
        refine zU_iconst d_R_event_54 ?_
        exact zU_ireturn d_R_event_55 (Or.inr ⟨rfl, by omega⟩) (by decide) (by decide) (⟨_, rfl, Or.inl ⟨e, hxe, he, Or.inl ⟨b51, by have h9 := g1; rw [hxe] at h9; simpa [h9, b51] using g2, rfl, by rw [tcd_z b40]⟩⟩, fun q hq => zup_ne _ _ _ (by omega)⟩)
    · have b40 := zB_nz.mp h40
      refine zU_iconst d_R_event_43 ?_
      exact zU_ireturn d_R_event_44 (Or.inr ⟨rfl, by omega⟩) (by decide) (by decide) (⟨_, rfl, by cases hw : decide (0 ≤ x ∧ x < 12); { refine Or.inr (Or.inl ⟨rfl, ?_⟩); simpa using hw }; { rw [hw] at b40; simp only [Bool.not_true, Bool.false_or, Bool.true_and] at b40; have hw' := of_decide_eq_true hw; refine Or.inr (Or.inr ⟨by rw [b40]; rfl, x.toNat, by omega, by omega, ?_⟩); simpa using b40 }, fun q hq => zup_ne _ _ _ (by omega)⟩)
  refine zU_if_ne 36 d_R_event_10 (by decide) (zBr _) (fun h10 => ?_) (fun h10 => ?_)
  · have b10 := zB_nz.mp h10
    refine zU_iconst d_R_event_36 ?_
    refine zU.eqS (st' := [zi (zB (decide (0 ≤ x ∧ x < 12) && (aD a x.toNat && (aC a x.toNat != on)))), zi (zB (!decide (0 ≤ x ∧ x < 12))), zp 51]) (congrArg (fun zz : Int => [zi zz, zi (zB (!decide (0 ≤ x ∧ x < 12))), zp 51]) (show (0 : Int) = zB (decide (0 ≤ x ∧ x < 12) && (aD a x.toNat && (aC a x.toNat != on))) from (zBf (by have h9 := nd_t b10; simp [h9])).symm)) ?_
    exact hJ37 
  · have b10 := zB_zero.mp h10
    have g1 := nd_f b10
    refine zU_aload_n d_R_event_13 rfl ?_
    refine zU_getR 58 d_R_event_14 f_R_29 (by decide) rfl rfl rfl ?_
    refine zU_iload_n d_R_event_17 rfl ?_
    refine zU_zald (v := zB (aD a x.toNat)) d_R_event_18 (by decide) rfl (by decide) (by omega) ((hE x.toNat (by omega)).1) ?_
    refine zU_if_eq 36 d_R_event_19 (by decide) (zBr _) (fun h19 => ?_) (fun h19 => ?_)
    · have b19 := zB_zero.mp h19
      refine zU_iconst d_R_event_36 ?_
      refine zU.eqS (st' := [zi (zB (decide (0 ≤ x ∧ x < 12) && (aD a x.toNat && (aC a x.toNat != on)))), zi (zB (!decide (0 ≤ x ∧ x < 12))), zp 51]) (congrArg (fun zz : Int => [zi zz, zi (zB (!decide (0 ≤ x ∧ x < 12))), zp 51]) (show (0 : Int) = zB (decide (0 ≤ x ∧ x < 12) && (aD a x.toNat && (aC a x.toNat != on))) from (zBf (by simp [b19])).symm)) ?_
      exact hJ37 
    · have b19 := zB_nz.mp h19
      refine zU_aload_n d_R_event_22 rfl ?_
      refine zU_getR 59 d_R_event_23 f_R_32 (by decide) rfl rfl rfl ?_
      refine zU_iload_n d_R_event_26 rfl ?_
      refine zU_zald (v := zB (aC a x.toNat)) d_R_event_27 (by decide) rfl (by decide) (by omega) ((hE x.toNat (by omega)).2.2 b19) ?_
      refine zU_iload_n d_R_event_28 rfl ?_
      refine zU_icmp_eq 36 d_R_event_29 (by decide) (zBr _) (zBr _) (fun h29 => ?_) (fun h29 => ?_)
      · refine zU_iconst d_R_event_36 ?_
        refine zU.eqS (st' := [zi (zB (decide (0 ≤ x ∧ x < 12) && (aD a x.toNat && (aC a x.toNat != on)))), zi (zB (!decide (0 ≤ x ∧ x < 12))), zp 51]) (congrArg (fun zz : Int => [zi zz, zi (zB (!decide (0 ≤ x ∧ x < 12))), zp 51]) (show (0 : Int) = zB (decide (0 ≤ x ∧ x < 12) && (aD a x.toNat && (aC a x.toNat != on))) from (zBf (by have h9 : aC a x.toNat = on := zB_inj h29; simp [h9])).symm)) ?_
        exact hJ37 
      · refine zU_iconst d_R_event_32 ?_
        refine zU_goto 37 d_R_event_33 (by decide) ?_
        refine zU.eqS (st' := [zi (zB (decide (0 ≤ x ∧ x < 12) && (aD a x.toNat && (aC a x.toNat != on)))), zi (zB (!decide (0 ≤ x ∧ x < 12))), zp 51]) (congrArg (fun zz : Int => [zi zz, zi (zB (!decide (0 ≤ x ∧ x < 12))), zp 51]) (show (1 : Int) = zB (decide (0 ≤ x ∧ x < 12) && (aD a x.toNat && (aC a x.toNat != on))) from (zBt (by have h9 : ¬ aC a x.toNat = on := fun h => h29 (by rw [h]); have h8 := nd_f b10; simp [h8, b19, h9])).symm)) ?_
        exact hJ37 
set_option maxRecDepth 100000 in
set_option maxHeartbeats 4000000 in
theorem m_R_edge (l : Launch) (μ : zM) {a : aT} (ha : aOk a) (hc : rRep a μ) {x s e t : Int} (hx : -2147483648 ≤ x ∧ x ≤ 2147483647) (hs : -2147483648 ≤ s ∧ s ≤ 2147483647) (he : -2147483648 ≤ e ∧ e ≤ 2147483647) (ht : -2147483648 ≤ t ∧ t ≤ 2147483647) :
    zC l y_R_edge b_R_edge 6 none [] 2 0 43 false [zp 51, zi x, zi s, zi e, zi t] μ (zRv (fun μ' => ((∃ i s' e' t' : Nat, x = i ∧ s = s' ∧ e = e' ∧ t = t' ∧ i < aN a ∧ s' < aS a i ∧ t' < aS a i ∧ e' < 12 ∧ aD a e' = true ∧ ¬ 0 ≤ aE a i s' e' ∧ μ' 51 0 = 0 ∧ rRep (aEdge a i s' e' t') μ' ∧ rNo μ') ∨ (μ' = zup μ 51 0 1 ∧ ¬ ((0 ≤ x ∧ x < aN a ∧ 0 ≤ s ∧ s < aS a x.toNat) ∧ (0 ≤ x ∧ x < aN a ∧ 0 ≤ t ∧ t < aS a x.toNat) ∧ 0 ≤ e ∧ e < 12)) ∨ (μ' = zup μ 51 0 2 ∧ ((0 ≤ x ∧ x < aN a ∧ 0 ≤ s ∧ s < aS a x.toNat) ∧ (0 ≤ x ∧ x < aN a ∧ 0 ≤ t ∧ t < aS a x.toNat) ∧ 0 ≤ e ∧ e < 12) ∧ (aD a e.toNat = false ∨ 0 ≤ aE a x.toNat s.toNat e.toNat))) ∧ (∀ q, (q < 51 ∨ q = 76) → μ' q = μ q))) := by
  refine zC.of (own := n_R) (L := [some (zp 51), some (zi x), some (zi s), some (zi e), some (zi t), none]) (by decide) rfl (by simp [zcat]) (Nat.le_of_ble_eq_true rfl) rfl (fun Γ => ?_)
  obtain ⟨hN, hA, hE⟩ := id hc
  have hN4 := ha.1
  refine zU_aload_n d_R_edge_0 rfl ?_
  refine zU_iload_n d_R_edge_1 rfl ?_
  refine zU_iload_n d_R_edge_2 rfl ?_
  refine zU_callVi (p0 := 51) [zi x, zi s] d_R_edge_3 k_R_108 rfl (by decide) rfl rfl (by decide) (Nat.le_of_ble_eq_true rfl) (fun l => m_R_isNoState l μ ha hc hx hs) (fun r3 μ3 h3 => ?_)
  obtain ⟨hμ3, rfl⟩ := h3
  replace hμ3 := hμ3.symm
  subst hμ3
  have hJ33 : zU Γ b_R_edge n_R 6 none [] (zRm 2 0 43) 0 0 (zFin Γ 0 false (zRv (fun μ' => ((∃ i s' e' t' : Nat, x = i ∧ s = s' ∧ e = e' ∧ t = t' ∧ i < aN a ∧ s' < aS a i ∧ t' < aS a i ∧ e' < 12 ∧ aD a e' = true ∧ ¬ 0 ≤ aE a i s' e' ∧ μ' 51 0 = 0 ∧ rRep (aEdge a i s' e' t') μ' ∧ rNo μ') ∨ (μ' = zup μ 51 0 1 ∧ ¬ ((0 ≤ x ∧ x < aN a ∧ 0 ≤ s ∧ s < aS a x.toNat) ∧ (0 ≤ x ∧ x < aN a ∧ 0 ≤ t ∧ t < aS a x.toNat) ∧ 0 ≤ e ∧ e < 12)) ∨ (μ' = zup μ 51 0 2 ∧ ((0 ≤ x ∧ x < aN a ∧ 0 ≤ s ∧ s < aS a x.toNat) ∧ (0 ≤ x ∧ x < aN a ∧ 0 ≤ t ∧ t < aS a x.toNat) ∧ 0 ≤ e ∧ e < 12) ∧ (aD a e.toNat = false ∨ 0 ≤ aE a x.toNat s.toNat e.toNat))) ∧ (∀ q, (q < 51 ∨ q = 76) → μ' q = μ q)))) true 0 μ 33 [some (zp 51), some (zi x), some (zi s), some (zi e), some (zi t), none] [zi (zB (!decide ((0 ≤ x ∧ x < aN a ∧ 0 ≤ s ∧ s < aS a x.toNat) ∧ (0 ≤ x ∧ x < aN a ∧ 0 ≤ t ∧ t < aS a x.toNat) ∧ 0 ≤ e ∧ e < 12)))] := by
    refine zU_istore d_R_edge_33 (by decide) ?_
    refine zU.eqL (L' := [some (zp 51), some (zi x), some (zi s), some (zi e), some (zi t), some (zi (zB (!decide ((0 ≤ x ∧ x < aN a ∧ 0 ≤ s ∧ s < aS a x.toNat) ∧ (0 ≤ x ∧ x < aN a ∧ 0 ≤ t ∧ t < aS a x.toNat) ∧ 0 ≤ e ∧ e < 12))))]) rfl ?_
    refine zU_aload_n d_R_edge_35 rfl ?_
    refine zU_iload d_R_edge_36 rfl ?_
    refine zU_iload d_R_edge_38 rfl ?_
    have hJ76 : zU Γ b_R_edge n_R 6 none [] (zRm 2 0 43) 0 0 (zFin Γ 0 false (zRv (fun μ' => ((∃ i s' e' t' : Nat, x = i ∧ s = s' ∧ e = e' ∧ t = t' ∧ i < aN a ∧ s' < aS a i ∧ t' < aS a i ∧ e' < 12 ∧ aD a e' = true ∧ ¬ 0 ≤ aE a i s' e' ∧ μ' 51 0 = 0 ∧ rRep (aEdge a i s' e' t') μ' ∧ rNo μ') ∨ (μ' = zup μ 51 0 1 ∧ ¬ ((0 ≤ x ∧ x < aN a ∧ 0 ≤ s ∧ s < aS a x.toNat) ∧ (0 ≤ x ∧ x < aN a ∧ 0 ≤ t ∧ t < aS a x.toNat) ∧ 0 ≤ e ∧ e < 12)) ∨ (μ' = zup μ 51 0 2 ∧ ((0 ≤ x ∧ x < aN a ∧ 0 ≤ s ∧ s < aS a x.toNat) ∧ (0 ≤ x ∧ x < aN a ∧ 0 ≤ t ∧ t < aS a x.toNat) ∧ 0 ≤ e ∧ e < 12) ∧ (aD a e.toNat = false ∨ 0 ≤ aE a x.toNat s.toNat e.toNat))) ∧ (∀ q, (q < 51 ∨ q = 76) → μ' q = μ q)))) true 0 μ 76 [some (zp 51), some (zi x), some (zi s), some (zi e), some (zi t), some (zi (zB (!decide ((0 ≤ x ∧ x < aN a ∧ 0 ≤ s ∧ s < aS a x.toNat) ∧ (0 ≤ x ∧ x < aN a ∧ 0 ≤ t ∧ t < aS a x.toNat) ∧ 0 ≤ e ∧ e < 12))))] [zi (zB (decide ((0 ≤ x ∧ x < aN a ∧ 0 ≤ s ∧ s < aS a x.toNat) ∧ (0 ≤ x ∧ x < aN a ∧ 0 ≤ t ∧ t < aS a x.toNat) ∧ 0 ≤ e ∧ e < 12) && (!aD a e.toNat || decide (0 ≤ aE a x.toNat s.toNat e.toNat)))), zi (zB (!decide ((0 ≤ x ∧ x < aN a ∧ 0 ≤ s ∧ s < aS a x.toNat) ∧ (0 ≤ x ∧ x < aN a ∧ 0 ≤ t ∧ t < aS a x.toNat) ∧ 0 ≤ e ∧ e < 12))), zp 51] := by
      refine zU_callVi (p0 := 51) [zi (zB (!decide ((0 ≤ x ∧ x < aN a ∧ 0 ≤ s ∧ s < aS a x.toNat) ∧ (0 ≤ x ∧ x < aN a ∧ 0 ≤ t ∧ t < aS a x.toNat) ∧ 0 ≤ e ∧ e < 12))), zi (zB (decide ((0 ≤ x ∧ x < aN a ∧ 0 ≤ s ∧ s < aS a x.toNat) ∧ (0 ≤ x ∧ x < aN a ∧ 0 ≤ t ∧ t < aS a x.toNat) ∧ 0 ≤ e ∧ e < 12) && (!aD a e.toNat || decide (0 ≤ aE a x.toNat s.toNat e.toNat))))] d_R_edge_76 k_R_101 rfl (by decide) rfl rfl (by decide) (Nat.le_of_ble_eq_true rfl) (fun l => m_R_throwing l μ (p := !decide ((0 ≤ x ∧ x < aN a ∧ 0 ≤ s ∧ s < aS a x.toNat) ∧ (0 ≤ x ∧ x < aN a ∧ 0 ≤ t ∧ t < aS a x.toNat) ∧ 0 ≤ e ∧ e < 12)) (q := decide ((0 ≤ x ∧ x < aN a ∧ 0 ≤ s ∧ s < aS a x.toNat) ∧ (0 ≤ x ∧ x < aN a ∧ 0 ≤ t ∧ t < aS a x.toNat) ∧ 0 ≤ e ∧ e < 12) && (!aD a e.toNat || decide (0 ≤ aE a x.toNat s.toNat e.toNat)))) (fun r76 μ76 h76 => ?_)
      obtain ⟨hr76, hμ76⟩ := h76
      subst hr76 hμ76
      refine zU_if_eq 83 d_R_edge_79 (by decide) (zBr _) (fun h79 => ?_) (fun h79 => ?_)
      · have b79 := zB_zero.mp h79
        have b79' := b79
        rw [Bool.or_eq_false_iff] at b79'
        have g1 := nd_f b79'.1
        have g2 := b79'.2
        rw [decide_eq_true g1, Bool.true_and, Bool.or_eq_false_iff] at g2
        obtain ⟨i, hxi⟩ : ∃ i : Nat, x = (i : Int) := ⟨x.toNat, by omega⟩
        obtain ⟨s', hss⟩ : ∃ i : Nat, s = (i : Int) := ⟨s.toNat, by omega⟩
        obtain ⟨e', hee⟩ : ∃ i : Nat, e = (i : Int) := ⟨e.toNat, by omega⟩
        obtain ⟨t', htt⟩ : ∃ i : Nat, t = (i : Int) := ⟨t.toNat, by omega⟩
        rw [hxi, hss, hee, htt] at g1
        rw [hxi, hss, hee] at g2
        simp only [Int.toNat_natCast] at g1 g2
        have hi : i < aN a := by omega
        have hS := (ha.2 i hi).1
        have hs6 : s' < 6 := by omega
        have he12 : e' < 12 := by omega
        refine zU.eqL (L' := [some (zp 51), some (zi (i : Int)), some (zi (s' : Int)), some (zi (e' : Int)), some (zi (t' : Int)), some (zi (zB (!decide ((0 ≤ x ∧ x < aN a ∧ 0 ≤ s ∧ s < aS a x.toNat) ∧ (0 ≤ x ∧ x < aN a ∧ 0 ≤ t ∧ t < aS a x.toNat) ∧ 0 ≤ e ∧ e < 12))))]) (by rw [← hxi, ← hss, ← hee, ← htt]) ?_
        refine zU_aload_n d_R_edge_83 rfl ?_
        refine zU_callVv (p0 := 51) [] d_R_edge_84 k_R_105 rfl (by decide) rfl rfl (by decide) (Nat.le_of_ble_eq_true rfl) (fun l => m_R_change l _) (fun μ84 h84 => ?_)
        subst h84
        refine zU.eqM (μ' := (rChg μ 0)) (by rw [tcd_z b79]; rfl) ?_
        refine zU_aload_n d_R_edge_87 rfl ?_
        refine zU_getR 57 d_R_edge_88 f_R_26 (by decide) rfl rfl rfl ?_
        refine zU_bipush d_R_edge_91 (by decide) ?_
        refine zU_iload_n d_R_edge_93 rfl ?_
        refine zU_imul d_R_edge_94 ?_
        refine zU_bipush d_R_edge_95 (by decide) ?_
        refine zU_iload_n d_R_edge_97 rfl ?_
        refine zU_imul d_R_edge_98 ?_
        refine zU_iadd d_R_edge_99 ?_
        refine zU_iload_n d_R_edge_100 rfl ?_
        refine zU_iadd d_R_edge_101 ?_
        refine zU_iload d_R_edge_102 rfl ?_
        refine zU_iast d_R_edge_104 (by decide) rfl (by decide) (by omega) ?_
        refine zU.eqM (μ' := zup (rChg μ 0) 57 (72 * i + 12 * s' + e') (t' : Int)) (by rw [show ((72 * (i : Int)) + (12 * (s' : Int)) + (e' : Int)).toNat = 72 * i + 12 * s' + e' by omega]) ?_
        exact zU_return d_R_edge_105 rfl (by decide) (by decide) (⟨rfl, Or.inl ⟨i, s', e', t', hxi, hss, hee, htt, hi, by omega, by omega, he12, by simpa using g2.1, of_decide_eq_false g2.2, by rw [zup_ne _ _ _ (by decide)]; exact (rChg_0 μ 0).1, rRep_edge hc hs6 he12 (by rw [zup_ne _ _ _ (by decide)]; exact rChg_i μ 0 (by decide) (by decide) (by decide)) (fun q h1 h2 h3 => by rw [zup_ne _ _ _ h3]; exact rChg_q μ 0 (by omega)) (fun j => by rw [zup_at, rChg_q μ 0 (by decide)]; by_cases h : j = 72 * i + 12 * s' + e' <;> simp [h]), by rw [zup_ne _ _ _ (by decide)]; exact (rChg_0 μ 0).2.1, by rw [zup_ne _ _ _ (by decide)]; exact (rChg_0 μ 0).2.2⟩, fun q hq => by rw [zup_ne _ _ _ (by omega), rChg_q μ 0 (by omega)]⟩)
      · have b79 := zB_nz.mp h79
        exact zU_return d_R_edge_82 rfl (by decide) (by decide) (⟨rfl, by by_cases hw : ((0 ≤ x ∧ x < aN a ∧ 0 ≤ s ∧ s < aS a x.toNat) ∧ (0 ≤ x ∧ x < aN a ∧ 0 ≤ t ∧ t < aS a x.toNat) ∧ 0 ≤ e ∧ e < 12); { rw [decide_eq_true hw, Bool.not_true, Bool.false_or, Bool.true_and] at b79; refine Or.inr (Or.inr ⟨by rw [decide_eq_true hw, Bool.true_and, b79]; rfl, hw, ?_⟩); simpa using b79 }; { exact Or.inr (Or.inl ⟨by rw [decide_eq_false hw]; rfl, hw⟩) }, fun q hq => zup_ne _ _ _ (by omega)⟩)
    refine zU_if_ne 75 d_R_edge_40 (by decide) (zBr _) (fun h40 => ?_) (fun h40 => ?_)
    · have b40 := zB_nz.mp h40
      refine zU_iconst d_R_edge_75 ?_
      refine zU.eqS (st' := [zi (zB (decide ((0 ≤ x ∧ x < aN a ∧ 0 ≤ s ∧ s < aS a x.toNat) ∧ (0 ≤ x ∧ x < aN a ∧ 0 ≤ t ∧ t < aS a x.toNat) ∧ 0 ≤ e ∧ e < 12) && (!aD a e.toNat || decide (0 ≤ aE a x.toNat s.toNat e.toNat)))), zi (zB (!decide ((0 ≤ x ∧ x < aN a ∧ 0 ≤ s ∧ s < aS a x.toNat) ∧ (0 ≤ x ∧ x < aN a ∧ 0 ≤ t ∧ t < aS a x.toNat) ∧ 0 ≤ e ∧ e < 12))), zp 51]) (congrArg (fun zz : Int => [zi zz, zi (zB (!decide ((0 ≤ x ∧ x < aN a ∧ 0 ≤ s ∧ s < aS a x.toNat) ∧ (0 ≤ x ∧ x < aN a ∧ 0 ≤ t ∧ t < aS a x.toNat) ∧ 0 ≤ e ∧ e < 12))), zp 51]) (show (0 : Int) = zB (decide ((0 ≤ x ∧ x < aN a ∧ 0 ≤ s ∧ s < aS a x.toNat) ∧ (0 ≤ x ∧ x < aN a ∧ 0 ≤ t ∧ t < aS a x.toNat) ∧ 0 ≤ e ∧ e < 12) && (!aD a e.toNat || decide (0 ≤ aE a x.toNat s.toNat e.toNat))) from (zBf (by have h9 := nd_t b40; rw [decide_eq_false h9]; rfl)).symm)) ?_
      exact hJ76 
    · have b40 := zB_zero.mp h40
      have g0 := nd_f b40
      have hS := (ha.2 x.toNat (by omega)).1
      refine zU_aload_n d_R_edge_43 rfl ?_
      refine zU_getR 58 d_R_edge_44 f_R_29 (by decide) rfl rfl rfl ?_
      refine zU_iload_n d_R_edge_47 rfl ?_
      refine zU_zald (v := zB (aD a e.toNat)) d_R_edge_48 (by decide) rfl (by decide) (by omega) ((hE e.toNat (by omega)).1) ?_
      refine zU_if_eq 71 d_R_edge_49 (by decide) (zBr _) (fun h49 => ?_) (fun h49 => ?_)
      · have b49 := zB_zero.mp h49
        refine zU_iconst d_R_edge_71 ?_
        refine zU_goto 76 d_R_edge_72 (by decide) ?_
        refine zU.eqS (st' := [zi (zB (decide ((0 ≤ x ∧ x < aN a ∧ 0 ≤ s ∧ s < aS a x.toNat) ∧ (0 ≤ x ∧ x < aN a ∧ 0 ≤ t ∧ t < aS a x.toNat) ∧ 0 ≤ e ∧ e < 12) && (!aD a e.toNat || decide (0 ≤ aE a x.toNat s.toNat e.toNat)))), zi (zB (!decide ((0 ≤ x ∧ x < aN a ∧ 0 ≤ s ∧ s < aS a x.toNat) ∧ (0 ≤ x ∧ x < aN a ∧ 0 ≤ t ∧ t < aS a x.toNat) ∧ 0 ≤ e ∧ e < 12))), zp 51]) (congrArg (fun zz : Int => [zi zz, zi (zB (!decide ((0 ≤ x ∧ x < aN a ∧ 0 ≤ s ∧ s < aS a x.toNat) ∧ (0 ≤ x ∧ x < aN a ∧ 0 ≤ t ∧ t < aS a x.toNat) ∧ 0 ≤ e ∧ e < 12))), zp 51]) (show (1 : Int) = zB (decide ((0 ≤ x ∧ x < aN a ∧ 0 ≤ s ∧ s < aS a x.toNat) ∧ (0 ≤ x ∧ x < aN a ∧ 0 ≤ t ∧ t < aS a x.toNat) ∧ 0 ≤ e ∧ e < 12) && (!aD a e.toNat || decide (0 ≤ aE a x.toNat s.toNat e.toNat))) from (zBt (by have h9 := nd_f b40; rw [decide_eq_true h9, b49]; rfl)).symm)) ?_
        exact hJ76 
      · have b49 := zB_nz.mp h49
        refine zU_aload_n d_R_edge_52 rfl ?_
        refine zU_getR 57 d_R_edge_53 f_R_26 (by decide) rfl rfl rfl ?_
        refine zU_bipush d_R_edge_56 (by decide) ?_
        refine zU_iload_n d_R_edge_58 rfl ?_
        refine zU_imul d_R_edge_59 ?_
        refine zU_bipush d_R_edge_60 (by decide) ?_
        refine zU_iload_n d_R_edge_62 rfl ?_
        refine zU_imul d_R_edge_63 ?_
        refine zU_iadd d_R_edge_64 ?_
        refine zU_iload_n d_R_edge_65 rfl ?_
        refine zU_iadd d_R_edge_66 ?_
        refine zU_iald (v := aE a x.toNat s.toNat e.toNat) d_R_edge_67 (by decide) rfl (by decide) (by omega) (by rw [show ((72 * x) + (12 * s) + e).toNat = 72 * x.toNat + 12 * s.toNat + e.toNat by omega]; exact ((hA x.toNat (by omega)).2.2.2 s.toNat (by omega)).2.2 e.toNat (by omega)) ?_
        have hEr := ((ha.2 x.toNat (by omega)).2.2 s.toNat e.toNat (by omega) (by omega)).1
        refine zU_if_lt 75 d_R_edge_68 (by decide) (by omega) (fun h68 => ?_) (fun h68 => ?_)
        · refine zU_iconst d_R_edge_75 ?_
          refine zU.eqS (st' := [zi (zB (decide ((0 ≤ x ∧ x < aN a ∧ 0 ≤ s ∧ s < aS a x.toNat) ∧ (0 ≤ x ∧ x < aN a ∧ 0 ≤ t ∧ t < aS a x.toNat) ∧ 0 ≤ e ∧ e < 12) && (!aD a e.toNat || decide (0 ≤ aE a x.toNat s.toNat e.toNat)))), zi (zB (!decide ((0 ≤ x ∧ x < aN a ∧ 0 ≤ s ∧ s < aS a x.toNat) ∧ (0 ≤ x ∧ x < aN a ∧ 0 ≤ t ∧ t < aS a x.toNat) ∧ 0 ≤ e ∧ e < 12))), zp 51]) (congrArg (fun zz : Int => [zi zz, zi (zB (!decide ((0 ≤ x ∧ x < aN a ∧ 0 ≤ s ∧ s < aS a x.toNat) ∧ (0 ≤ x ∧ x < aN a ∧ 0 ≤ t ∧ t < aS a x.toNat) ∧ 0 ≤ e ∧ e < 12))), zp 51]) (show (0 : Int) = zB (decide ((0 ≤ x ∧ x < aN a ∧ 0 ≤ s ∧ s < aS a x.toNat) ∧ (0 ≤ x ∧ x < aN a ∧ 0 ≤ t ∧ t < aS a x.toNat) ∧ 0 ≤ e ∧ e < 12) && (!aD a e.toNat || decide (0 ≤ aE a x.toNat s.toNat e.toNat))) from (zBf (by have h9 : ¬ 0 ≤ aE a x.toNat s.toNat e.toNat := (by omega); rw [b49, decide_eq_false h9]; simp)).symm)) ?_
          exact hJ76 
        · refine zU_iconst d_R_edge_71 ?_
          refine zU_goto 76 d_R_edge_72 (by decide) ?_
          refine zU.eqS (st' := [zi (zB (decide ((0 ≤ x ∧ x < aN a ∧ 0 ≤ s ∧ s < aS a x.toNat) ∧ (0 ≤ x ∧ x < aN a ∧ 0 ≤ t ∧ t < aS a x.toNat) ∧ 0 ≤ e ∧ e < 12) && (!aD a e.toNat || decide (0 ≤ aE a x.toNat s.toNat e.toNat)))), zi (zB (!decide ((0 ≤ x ∧ x < aN a ∧ 0 ≤ s ∧ s < aS a x.toNat) ∧ (0 ≤ x ∧ x < aN a ∧ 0 ≤ t ∧ t < aS a x.toNat) ∧ 0 ≤ e ∧ e < 12))), zp 51]) (congrArg (fun zz : Int => [zi zz, zi (zB (!decide ((0 ≤ x ∧ x < aN a ∧ 0 ≤ s ∧ s < aS a x.toNat) ∧ (0 ≤ x ∧ x < aN a ∧ 0 ≤ t ∧ t < aS a x.toNat) ∧ 0 ≤ e ∧ e < 12))), zp 51]) (show (1 : Int) = zB (decide ((0 ≤ x ∧ x < aN a ∧ 0 ≤ s ∧ s < aS a x.toNat) ∧ (0 ≤ x ∧ x < aN a ∧ 0 ≤ t ∧ t < aS a x.toNat) ∧ 0 ≤ e ∧ e < 12) && (!aD a e.toNat || decide (0 ≤ aE a x.toNat s.toNat e.toNat))) from (zBt (by have h9 : 0 ≤ aE a x.toNat s.toNat e.toNat := (by omega); have h8 := nd_f b40; rw [decide_eq_true h8, decide_eq_true h9]; simp)).symm)) ?_
          exact hJ76 
  refine zU_if_ne 28 d_R_edge_6 (by decide) (zBr _) (fun h6 => ?_) (fun h6 => ?_)
  · have b6 := zB_nz.mp h6
    refine zU_iconst d_R_edge_28 ?_
    refine zU_goto 33 d_R_edge_29 (by decide) ?_
    refine zU.eqS (st' := [zi (zB (!decide ((0 ≤ x ∧ x < aN a ∧ 0 ≤ s ∧ s < aS a x.toNat) ∧ (0 ≤ x ∧ x < aN a ∧ 0 ≤ t ∧ t < aS a x.toNat) ∧ 0 ≤ e ∧ e < 12)))]) (congrArg (fun zz : Int => [zi zz]) (show (1 : Int) = zB (!decide ((0 ≤ x ∧ x < aN a ∧ 0 ≤ s ∧ s < aS a x.toNat) ∧ (0 ≤ x ∧ x < aN a ∧ 0 ≤ t ∧ t < aS a x.toNat) ∧ 0 ≤ e ∧ e < 12)) from (zBt (by have h9 := nd_t b6; have h8 : ¬ ((0 ≤ x ∧ x < aN a ∧ 0 ≤ s ∧ s < aS a x.toNat) ∧ (0 ≤ x ∧ x < aN a ∧ 0 ≤ t ∧ t < aS a x.toNat) ∧ 0 ≤ e ∧ e < 12) := fun h => h9 h.1; simp only [h8, decide_false, Bool.not_false])).symm)) ?_
    exact hJ33 
  · have b6 := zB_zero.mp h6
    refine zU_aload_n d_R_edge_9 rfl ?_
    refine zU_iload_n d_R_edge_10 rfl ?_
    refine zU_iload d_R_edge_11 rfl ?_
    refine zU_callVi (p0 := 51) [zi x, zi t] d_R_edge_13 k_R_108 rfl (by decide) rfl rfl (by decide) (Nat.le_of_ble_eq_true rfl) (fun l => m_R_isNoState l μ ha hc hx ht) (fun r13 μ13 h13 => ?_)
    obtain ⟨hμ13, rfl⟩ := h13
    replace hμ13 := hμ13.symm
    subst hμ13
    refine zU_if_ne 28 d_R_edge_16 (by decide) (zBr _) (fun h16 => ?_) (fun h16 => ?_)
    · have b16 := zB_nz.mp h16
      refine zU_iconst d_R_edge_28 ?_
      refine zU_goto 33 d_R_edge_29 (by decide) ?_
      refine zU.eqS (st' := [zi (zB (!decide ((0 ≤ x ∧ x < aN a ∧ 0 ≤ s ∧ s < aS a x.toNat) ∧ (0 ≤ x ∧ x < aN a ∧ 0 ≤ t ∧ t < aS a x.toNat) ∧ 0 ≤ e ∧ e < 12)))]) (congrArg (fun zz : Int => [zi zz]) (show (1 : Int) = zB (!decide ((0 ≤ x ∧ x < aN a ∧ 0 ≤ s ∧ s < aS a x.toNat) ∧ (0 ≤ x ∧ x < aN a ∧ 0 ≤ t ∧ t < aS a x.toNat) ∧ 0 ≤ e ∧ e < 12)) from (zBt (by have h9 := nd_t b16; have h8 : ¬ ((0 ≤ x ∧ x < aN a ∧ 0 ≤ s ∧ s < aS a x.toNat) ∧ (0 ≤ x ∧ x < aN a ∧ 0 ≤ t ∧ t < aS a x.toNat) ∧ 0 ≤ e ∧ e < 12) := fun h => h9 h.2.1; simp only [h8, decide_false, Bool.not_false])).symm)) ?_
      exact hJ33 
    · have b16 := zB_zero.mp h16
      refine zU_iload_n d_R_edge_19 rfl ?_
      refine zU_bipush d_R_edge_20 (by decide) ?_
      refine zU_callSi [zi e, zi 12] d_R_edge_22 k_R_94 rfl (by decide) (Nat.le_of_ble_eq_true rfl) (fun l => m_R_out l μ he (by omega)) (fun r22 μ22 h22 => ?_)
      obtain ⟨hμ22, rfl⟩ := h22
      replace hμ22 := hμ22.symm
      subst hμ22
      refine zU_if_eq 32 d_R_edge_25 (by decide) (zBr _) (fun h25 => ?_) (fun h25 => ?_)
      · have b25 := zB_zero.mp h25
        refine zU_iconst d_R_edge_32 ?_
        refine zU.eqS (st' := [zi (zB (!decide ((0 ≤ x ∧ x < aN a ∧ 0 ≤ s ∧ s < aS a x.toNat) ∧ (0 ≤ x ∧ x < aN a ∧ 0 ≤ t ∧ t < aS a x.toNat) ∧ 0 ≤ e ∧ e < 12)))]) (congrArg (fun zz : Int => [zi zz]) (show (0 : Int) = zB (!decide ((0 ≤ x ∧ x < aN a ∧ 0 ≤ s ∧ s < aS a x.toNat) ∧ (0 ≤ x ∧ x < aN a ∧ 0 ≤ t ∧ t < aS a x.toNat) ∧ 0 ≤ e ∧ e < 12)) from (zBf (by have h9 : ((0 ≤ x ∧ x < aN a ∧ 0 ≤ s ∧ s < aS a x.toNat) ∧ (0 ≤ x ∧ x < aN a ∧ 0 ≤ t ∧ t < aS a x.toNat) ∧ 0 ≤ e ∧ e < 12) := ⟨nd_f b6, nd_f b16, nd_f b25⟩; simp only [h9, and_self, decide_true, Bool.not_true])).symm)) ?_
        exact hJ33 
      · have b25 := zB_nz.mp h25
        refine zU_iconst d_R_edge_28 ?_
        refine zU_goto 33 d_R_edge_29 (by decide) ?_
        refine zU.eqS (st' := [zi (zB (!decide ((0 ≤ x ∧ x < aN a ∧ 0 ≤ s ∧ s < aS a x.toNat) ∧ (0 ≤ x ∧ x < aN a ∧ 0 ≤ t ∧ t < aS a x.toNat) ∧ 0 ≤ e ∧ e < 12)))]) (congrArg (fun zz : Int => [zi zz]) (show (1 : Int) = zB (!decide ((0 ≤ x ∧ x < aN a ∧ 0 ≤ s ∧ s < aS a x.toNat) ∧ (0 ≤ x ∧ x < aN a ∧ 0 ≤ t ∧ t < aS a x.toNat) ∧ 0 ≤ e ∧ e < 12)) from (zBt (by have h9 := nd_t b25; have h8 : ¬ ((0 ≤ x ∧ x < aN a ∧ 0 ≤ s ∧ s < aS a x.toNat) ∧ (0 ≤ x ∧ x < aN a ∧ 0 ≤ t ∧ t < aS a x.toNat) ∧ 0 ≤ e ∧ e < 12) := fun h => h9 h.2.2; simp only [h8, decide_false, Bool.not_false])).symm)) ?_
        exact hJ33 
set_option maxRecDepth 100000 in
set_option maxHeartbeats 4000000 in
theorem m_R_tell (l : Launch) (μ : zM) {a : aT} (ha : aOk a) (hc : rRep a μ) {x s w : Int} {on : Bool} (hx : -2147483648 ≤ x ∧ x ≤ 2147483647) (hs : -2147483648 ≤ s ∧ s ≤ 2147483647) (hw : -2147483648 ≤ w ∧ w ≤ 2147483647) :
    zC l y_R_tell b_R_tell 5 none [] 2 0 43 false [zp 51, zi x, zi s, zi w, zi (zB on)] μ (zRv (fun μ' => ((∃ i s' w' : Nat, x = i ∧ s = s' ∧ w = w' ∧ i < aN a ∧ s' < aS a i ∧ w' < 3 ∧ μ' 51 0 = 0 ∧ rRep (aTell a i s' w' on) μ' ∧ rNo μ') ∨ (μ' = zup μ 51 0 1 ∧ ¬ ((0 ≤ x ∧ x < aN a ∧ 0 ≤ s ∧ s < aS a x.toNat) ∧ 0 ≤ w ∧ w < 3))) ∧ (∀ q, (q < 51 ∨ q = 76) → μ' q = μ q))) := by
  refine zC.of (own := n_R) (L := [some (zp 51), some (zi x), some (zi s), some (zi w), some (zi (zB on))]) (by decide) rfl (by simp [zcat]) (Nat.le_of_ble_eq_true rfl) rfl (fun Γ => ?_)
  obtain ⟨hN, hA, hE⟩ := id hc
  have hN4 := ha.1
  refine zU_aload_n d_R_tell_0 rfl ?_
  refine zU_aload_n d_R_tell_1 rfl ?_
  refine zU_iload_n d_R_tell_2 rfl ?_
  refine zU_iload_n d_R_tell_3 rfl ?_
  refine zU_callVi (p0 := 51) [zi x, zi s] d_R_tell_4 k_R_108 rfl (by decide) rfl rfl (by decide) (Nat.le_of_ble_eq_true rfl) (fun l => m_R_isNoState l μ ha hc hx hs) (fun r4 μ4 h4 => ?_)
  obtain ⟨hμ4, rfl⟩ := h4
  replace hμ4 := hμ4.symm
  subst hμ4
  have hJ23 : zU Γ b_R_tell n_R 5 none [] (zRm 2 0 43) 0 0 (zFin Γ 0 false (zRv (fun μ' => ((∃ i s' w' : Nat, x = i ∧ s = s' ∧ w = w' ∧ i < aN a ∧ s' < aS a i ∧ w' < 3 ∧ μ' 51 0 = 0 ∧ rRep (aTell a i s' w' on) μ' ∧ rNo μ') ∨ (μ' = zup μ 51 0 1 ∧ ¬ ((0 ≤ x ∧ x < aN a ∧ 0 ≤ s ∧ s < aS a x.toNat) ∧ 0 ≤ w ∧ w < 3))) ∧ (∀ q, (q < 51 ∨ q = 76) → μ' q = μ q)))) true 0 μ 23 [some (zp 51), some (zi x), some (zi s), some (zi w), some (zi (zB on))] [zi (zB (!decide ((0 ≤ x ∧ x < aN a ∧ 0 ≤ s ∧ s < aS a x.toNat) ∧ 0 ≤ w ∧ w < 3))), zp 51] := by
    refine zU_iconst d_R_tell_23 ?_
    refine zU_callVi (p0 := 51) [zi (zB (!decide ((0 ≤ x ∧ x < aN a ∧ 0 ≤ s ∧ s < aS a x.toNat) ∧ 0 ≤ w ∧ w < 3))), zi 0] d_R_tell_24 k_R_101 rfl (by decide) rfl rfl (by decide) (Nat.le_of_ble_eq_true rfl) (fun l => m_R_throwing l μ (p := !decide ((0 ≤ x ∧ x < aN a ∧ 0 ≤ s ∧ s < aS a x.toNat) ∧ 0 ≤ w ∧ w < 3)) (q := false)) (fun r24 μ24 h24 => ?_)
    obtain ⟨hr24, hμ24⟩ := h24
    subst hr24 hμ24
    refine zU_if_eq 31 d_R_tell_27 (by decide) (zBr _) (fun h27 => ?_) (fun h27 => ?_)
    · have b27 := zB_zero.mp h27
      have g1 := nd_f (show (!decide ((0 ≤ x ∧ x < aN a ∧ 0 ≤ s ∧ s < aS a x.toNat) ∧ 0 ≤ w ∧ w < 3)) = false by rw [Bool.or_false] at b27; exact b27)
      obtain ⟨i, hxi⟩ : ∃ i : Nat, x = (i : Int) := ⟨x.toNat, by omega⟩
      obtain ⟨s', hss⟩ : ∃ i : Nat, s = (i : Int) := ⟨s.toNat, by omega⟩
      obtain ⟨w', hww⟩ : ∃ i : Nat, w = (i : Int) := ⟨w.toNat, by omega⟩
      rw [hxi, hss, hww] at g1
      simp only [Int.toNat_natCast] at g1
      have hi : i < aN a := by omega
      have hS := (ha.2 i hi).1
      have hI := (ha.2 i hi).2.1
      have hs6 : s' < 6 := by omega
      have hw3 : w' < 3 := by omega
      refine zU.eqL (L' := [some (zp 51), some (zi (i : Int)), some (zi (s' : Int)), some (zi (w' : Int)), some (zi (zB on))]) (by rw [← hxi, ← hss, ← hww]) ?_
      refine zU_aload_n d_R_tell_31 rfl ?_
      refine zU_callVv (p0 := 51) [] d_R_tell_32 k_R_105 rfl (by decide) rfl rfl (by decide) (Nat.le_of_ble_eq_true rfl) (fun l => m_R_change l _) (fun μ32 h32 => ?_)
      subst h32
      refine zU.eqM (μ' := (rChg μ 0)) (by rw [tcd_z b27]; rfl) ?_
      refine zU_iload_n d_R_tell_35 rfl ?_
      refine zU_if_ne 70 d_R_tell_36 (by decide) (by omega) (fun h36 => ?_) (fun h36 => ?_)
      · refine zU_iload_n d_R_tell_70 rfl ?_
        refine zU_iconst d_R_tell_71 ?_
        refine zU_icmp_ne 88 d_R_tell_72 (by decide) (by omega) (by omega) (fun h72 => ?_) (fun h72 => ?_)
        · refine zU_iload_n d_R_tell_88 rfl ?_
          refine zU_iconst d_R_tell_89 ?_
          refine zU_icmp_ne 106 d_R_tell_90 (by decide) (by omega) (by omega) (fun h90 => ?_) (fun h90 => ?_)
          · exfalso; omega
          · refine zU_aload_n d_R_tell_93 rfl ?_
            refine zU_getR 56 d_R_tell_94 f_R_23 (by decide) rfl rfl rfl ?_
            refine zU_bipush d_R_tell_97 (by decide) ?_
            refine zU_iload_n d_R_tell_99 rfl ?_
            refine zU_imul d_R_tell_100 ?_
            refine zU_iload_n d_R_tell_101 rfl ?_
            refine zU_iadd d_R_tell_102 ?_
            refine zU_iload d_R_tell_103 rfl ?_
            refine zU_zast d_R_tell_105 (by decide) rfl (by decide) (by omega) (zB_or _) ?_
            refine zU.eqM (μ' := zup (rChg μ 0) 56 (6 * i + s') (zB on)) (by rw [show ((6 * (i : Int)) + (s' : Int)).toNat = 6 * i + s' by omega]) ?_
            exact zU_return d_R_tell_106 rfl (by decide) (by decide) (⟨rfl, Or.inl ⟨i, s', w', hxi, hss, hww, hi, by omega, hw3, by rw [zup_ne _ _ _ (by decide)]; exact (rChg_0 μ 0).1, by have h9 : w' = 2 := (by omega); subst h9; exact rRep_fbd hc hs6 (by rw [zup_ne _ _ _ (by decide)]; exact rChg_i μ 0 (by decide) (by decide) (by decide)) (fun q h1 h2 h3 => by rw [zup_ne _ _ _ h3]; exact rChg_q μ 0 (by omega)) (fun j => by rw [zup_at, rChg_q μ 0 (by decide)]; by_cases h : j = 6 * i + s' <;> simp [h]), by rw [zup_ne _ _ _ (by decide)]; exact (rChg_0 μ 0).2.1, by rw [zup_ne _ _ _ (by decide)]; exact (rChg_0 μ 0).2.2⟩, fun q hq => by rw [zup_ne _ _ _ (by omega), rChg_q μ 0 (by omega)]⟩)
        · refine zU_aload_n d_R_tell_75 rfl ?_
          refine zU_getR 55 d_R_tell_76 f_R_20 (by decide) rfl rfl rfl ?_
          refine zU_bipush d_R_tell_79 (by decide) ?_
          refine zU_iload_n d_R_tell_81 rfl ?_
          refine zU_imul d_R_tell_82 ?_
          refine zU_iload_n d_R_tell_83 rfl ?_
          refine zU_iadd d_R_tell_84 ?_
          refine zU_iload d_R_tell_85 rfl ?_
          refine zU_zast d_R_tell_87 (by decide) rfl (by decide) (by omega) (zB_or _) ?_
          refine zU.eqM (μ' := zup (rChg μ 0) 55 (6 * i + s') (zB on)) (by rw [show ((6 * (i : Int)) + (s' : Int)).toNat = 6 * i + s' by omega]) ?_
          refine zU_iload_n d_R_tell_88 rfl ?_
          refine zU_iconst d_R_tell_89 ?_
          refine zU_icmp_ne 106 d_R_tell_90 (by decide) (by omega) (by omega) (fun h90 => ?_) (fun h90 => ?_)
          · exact zU_return d_R_tell_106 rfl (by decide) (by decide) (⟨rfl, Or.inl ⟨i, s', w', hxi, hss, hww, hi, by omega, hw3, by rw [zup_ne _ _ _ (by decide)]; exact (rChg_0 μ 0).1, by have h9 : w' = 1 := (by omega); subst h9; exact rRep_mrk hc hs6 (by rw [zup_ne _ _ _ (by decide)]; exact rChg_i μ 0 (by decide) (by decide) (by decide)) (fun q h1 h2 h3 => by rw [zup_ne _ _ _ h3]; exact rChg_q μ 0 (by omega)) (fun j => by rw [zup_at, rChg_q μ 0 (by decide)]; by_cases h : j = 6 * i + s' <;> simp [h]), by rw [zup_ne _ _ _ (by decide)]; exact (rChg_0 μ 0).2.1, by rw [zup_ne _ _ _ (by decide)]; exact (rChg_0 μ 0).2.2⟩, fun q hq => by rw [zup_ne _ _ _ (by omega), rChg_q μ 0 (by omega)]⟩)
          · exfalso; omega
      · refine zU_iload d_R_tell_39 rfl ?_
        refine zU_if_ne 54 d_R_tell_41 (by decide) (zBr _) (fun h41 => ?_) (fun h41 => ?_)
        · have b41 := zB_nz.mp h41
          refine zU_aload_n d_R_tell_54 rfl ?_
          refine zU_getR 54 d_R_tell_55 f_R_17 (by decide) rfl rfl rfl ?_
          refine zU_iload_n d_R_tell_58 rfl ?_
          refine zU_iload d_R_tell_59 rfl ?_
          refine zU_if_eq 68 d_R_tell_61 (by decide) (zBr _) (fun h61 => ?_) (fun h61 => ?_)
          · exact absurd (zB_zero.mp h61) (by rw [b41]; decide)
          · have b61 := zB_nz.mp h61
            refine zU_iload_n d_R_tell_64 rfl ?_
            refine zU_goto 69 d_R_tell_65 (by decide) ?_
            refine zU_iast d_R_tell_69 (by decide) rfl (by decide) (by omega) ?_
            refine zU.eqM (μ' := zup (rChg μ 0) 54 i (s' : Int)) rfl ?_
            refine zU_iload_n d_R_tell_70 rfl ?_
            refine zU_iconst d_R_tell_71 ?_
            refine zU_icmp_ne 88 d_R_tell_72 (by decide) (by omega) (by omega) (fun h72 => ?_) (fun h72 => ?_)
            · refine zU_iload_n d_R_tell_88 rfl ?_
              refine zU_iconst d_R_tell_89 ?_
              refine zU_icmp_ne 106 d_R_tell_90 (by decide) (by omega) (by omega) (fun h90 => ?_) (fun h90 => ?_)
              · exact zU_return d_R_tell_106 rfl (by decide) (by decide) (⟨rfl, Or.inl ⟨i, s', w', hxi, hss, hww, hi, by omega, hw3, by rw [zup_ne _ _ _ (by decide)]; exact (rChg_0 μ 0).1, by have h9 : w' = 0 := (by omega); subst h9; show rRep (if on = true then aIni a i s' else if aI a i = s' then aIni a i (-1) else a) _; rw [if_pos b41]; exact rRep_ini hc (by rw [zup_ne _ _ _ (by decide)]; exact rChg_i μ 0 (by decide) (by decide) (by decide)) (fun q h1 h2 h3 => by rw [zup_ne _ _ _ h3]; exact rChg_q μ 0 (by omega)) (fun j => by rw [zup_at, rChg_q μ 0 (by decide)]; by_cases h : j = i <;> simp [h]), by rw [zup_ne _ _ _ (by decide)]; exact (rChg_0 μ 0).2.1, by rw [zup_ne _ _ _ (by decide)]; exact (rChg_0 μ 0).2.2⟩, fun q hq => by rw [zup_ne _ _ _ (by omega), rChg_q μ 0 (by omega)]⟩)
              · exfalso; omega
            · exfalso; omega
        · have b41 := zB_zero.mp h41
          refine zU_aload_n d_R_tell_44 rfl ?_
          refine zU_getR 54 d_R_tell_45 f_R_17 (by decide) rfl rfl rfl ?_
          refine zU_iload_n d_R_tell_48 rfl ?_
          refine zU_iald (v := aI a i) d_R_tell_49 (by decide) rfl (by decide) (by omega) (by rw [rChg_q μ 0 (by decide)]; exact (hA i hi).2.2.1) ?_
          refine zU_iload_n d_R_tell_50 rfl ?_
          refine zU_icmp_ne 70 d_R_tell_51 (by decide) (by omega) (by omega) (fun h51 => ?_) (fun h51 => ?_)
          · refine zU_iload_n d_R_tell_70 rfl ?_
            refine zU_iconst d_R_tell_71 ?_
            refine zU_icmp_ne 88 d_R_tell_72 (by decide) (by omega) (by omega) (fun h72 => ?_) (fun h72 => ?_)
            · refine zU_iload_n d_R_tell_88 rfl ?_
              refine zU_iconst d_R_tell_89 ?_
              refine zU_icmp_ne 106 d_R_tell_90 (by decide) (by omega) (by omega) (fun h90 => ?_) (fun h90 => ?_)
              · exact zU_return d_R_tell_106 rfl (by decide) (by decide) (⟨rfl, Or.inl ⟨i, s', w', hxi, hss, hww, hi, by omega, hw3, (rChg_0 μ 0).1, by have h9 : w' = 0 := (by omega); subst h9; show rRep (if on = true then aIni a i s' else if aI a i = s' then aIni a i (-1) else a) _; rw [b41, if_neg (by decide), if_neg h51]; exact rRep_chg hc, (rChg_0 μ 0).2.1, (rChg_0 μ 0).2.2⟩, fun q hq => rChg_q μ 0 (by omega)⟩)
              · exfalso; omega
            · exfalso; omega
          · refine zU_aload_n d_R_tell_54 rfl ?_
            refine zU_getR 54 d_R_tell_55 f_R_17 (by decide) rfl rfl rfl ?_
            refine zU_iload_n d_R_tell_58 rfl ?_
            refine zU_iload d_R_tell_59 rfl ?_
            refine zU_if_eq 68 d_R_tell_61 (by decide) (zBr _) (fun h61 => ?_) (fun h61 => ?_)
            · have b61 := zB_zero.mp h61
              refine zU_iconst d_R_tell_68 ?_
              refine zU_iast d_R_tell_69 (by decide) rfl (by decide) (by omega) ?_
              refine zU.eqM (μ' := zup (rChg μ 0) 54 i (-1)) rfl ?_
              refine zU_iload_n d_R_tell_70 rfl ?_
              refine zU_iconst d_R_tell_71 ?_
              refine zU_icmp_ne 88 d_R_tell_72 (by decide) (by omega) (by omega) (fun h72 => ?_) (fun h72 => ?_)
              · refine zU_iload_n d_R_tell_88 rfl ?_
                refine zU_iconst d_R_tell_89 ?_
                refine zU_icmp_ne 106 d_R_tell_90 (by decide) (by omega) (by omega) (fun h90 => ?_) (fun h90 => ?_)
                · exact zU_return d_R_tell_106 rfl (by decide) (by decide) (⟨rfl, Or.inl ⟨i, s', w', hxi, hss, hww, hi, by omega, hw3, by rw [zup_ne _ _ _ (by decide)]; exact (rChg_0 μ 0).1, by have h9 : w' = 0 := (by omega); subst h9; show rRep (if on = true then aIni a i s' else if aI a i = s' then aIni a i (-1) else a) _; rw [b41, if_neg (by decide), if_pos (by omega)]; exact rRep_ini hc (by rw [zup_ne _ _ _ (by decide)]; exact rChg_i μ 0 (by decide) (by decide) (by decide)) (fun q h1 h2 h3 => by rw [zup_ne _ _ _ h3]; exact rChg_q μ 0 (by omega)) (fun j => by rw [zup_at, rChg_q μ 0 (by decide)]; by_cases h : j = i <;> simp [h]), by rw [zup_ne _ _ _ (by decide)]; exact (rChg_0 μ 0).2.1, by rw [zup_ne _ _ _ (by decide)]; exact (rChg_0 μ 0).2.2⟩, fun q hq => by rw [zup_ne _ _ _ (by omega), rChg_q μ 0 (by omega)]⟩)
                · exfalso; omega
              · exfalso; omega
            · exact absurd (zB_nz.mp h61) (by rw [b41]; decide)
    · have b27 := zB_nz.mp h27
      exact zU_return d_R_tell_30 rfl (by decide) (by decide) (⟨rfl, Or.inr ⟨by rw [Bool.or_false] at b27; rw [tcd_1 b27], nd_t (show (!decide ((0 ≤ x ∧ x < aN a ∧ 0 ≤ s ∧ s < aS a x.toNat) ∧ 0 ≤ w ∧ w < 3)) = true by rw [Bool.or_false] at b27; exact b27)⟩, fun q hq => zup_ne _ _ _ (by omega)⟩)
  refine zU_if_ne 18 d_R_tell_7 (by decide) (zBr _) (fun h7 => ?_) (fun h7 => ?_)
  · have b7 := zB_nz.mp h7
    refine zU_iconst d_R_tell_18 ?_
    refine zU_goto 23 d_R_tell_19 (by decide) ?_
    refine zU.eqS (st' := [zi (zB (!decide ((0 ≤ x ∧ x < aN a ∧ 0 ≤ s ∧ s < aS a x.toNat) ∧ 0 ≤ w ∧ w < 3))), zp 51]) (congrArg (fun zz : Int => [zi zz, zp 51]) (show (1 : Int) = zB (!decide ((0 ≤ x ∧ x < aN a ∧ 0 ≤ s ∧ s < aS a x.toNat) ∧ 0 ≤ w ∧ w < 3)) from (zBt (by have h9 := nd_t b7; have h8 : ¬ ((0 ≤ x ∧ x < aN a ∧ 0 ≤ s ∧ s < aS a x.toNat) ∧ 0 ≤ w ∧ w < 3) := fun h => h9 h.1; simp only [h8, decide_false, Bool.not_false])).symm)) ?_
    exact hJ23 
  · have b7 := zB_zero.mp h7
    refine zU_iload_n d_R_tell_10 rfl ?_
    refine zU_iconst d_R_tell_11 ?_
    refine zU_callSi [zi w, zi 3] d_R_tell_12 k_R_94 rfl (by decide) (Nat.le_of_ble_eq_true rfl) (fun l => m_R_out l μ hw (by omega)) (fun r12 μ12 h12 => ?_)
    obtain ⟨hμ12, rfl⟩ := h12
    replace hμ12 := hμ12.symm
    subst hμ12
    refine zU_if_eq 22 d_R_tell_15 (by decide) (zBr _) (fun h15 => ?_) (fun h15 => ?_)
    · have b15 := zB_zero.mp h15
      refine zU_iconst d_R_tell_22 ?_
      refine zU.eqS (st' := [zi (zB (!decide ((0 ≤ x ∧ x < aN a ∧ 0 ≤ s ∧ s < aS a x.toNat) ∧ 0 ≤ w ∧ w < 3))), zp 51]) (congrArg (fun zz : Int => [zi zz, zp 51]) (show (0 : Int) = zB (!decide ((0 ≤ x ∧ x < aN a ∧ 0 ≤ s ∧ s < aS a x.toNat) ∧ 0 ≤ w ∧ w < 3)) from (zBf (by have h9 : ((0 ≤ x ∧ x < aN a ∧ 0 ≤ s ∧ s < aS a x.toNat) ∧ 0 ≤ w ∧ w < 3) := ⟨nd_f b7, nd_f b15⟩; simp only [h9, and_self, decide_true, Bool.not_true])).symm)) ?_
      exact hJ23 
    · have b15 := zB_nz.mp h15
      refine zU_iconst d_R_tell_18 ?_
      refine zU_goto 23 d_R_tell_19 (by decide) ?_
      refine zU.eqS (st' := [zi (zB (!decide ((0 ≤ x ∧ x < aN a ∧ 0 ≤ s ∧ s < aS a x.toNat) ∧ 0 ≤ w ∧ w < 3))), zp 51]) (congrArg (fun zz : Int => [zi zz, zp 51]) (show (1 : Int) = zB (!decide ((0 ≤ x ∧ x < aN a ∧ 0 ≤ s ∧ s < aS a x.toNat) ∧ 0 ≤ w ∧ w < 3)) from (zBt (by have h9 := nd_t b15; have h8 : ¬ ((0 ≤ x ∧ x < aN a ∧ 0 ≤ s ∧ s < aS a x.toNat) ∧ 0 ≤ w ∧ w < 3) := fun h => h9 h.2; simp only [h8, decide_false, Bool.not_false])).symm)) ?_
      exact hJ23 
set_option maxRecDepth 100000 in
set_option maxHeartbeats 4000000 in
theorem m_R_clear (l : Launch) (μ : zM) {a : aT} (ha : aOk a) (hc : rRep a μ) :
    zC l y_R_clear b_R_clear 2 none [] 1 0 20 false [zp 51] μ (zRv (fun μ' => (μ' 51 0 = 0 ∧ rRep (aClr a) μ' ∧ rNo μ') ∧ (∀ q, (q < 51 ∨ q = 76) → μ' q = μ q))) := by
  refine zC.of (own := n_R) (L := [some (zp 51), none]) (by decide) rfl (by simp [zcat]) (Nat.le_of_ble_eq_true rfl) rfl (fun Γ => ?_)
  obtain ⟨hN, hA, hE⟩ := id hc
  have hN4 := ha.1
  refine zU_aload_n d_R_clear_0 rfl ?_
  refine zU_iconst d_R_clear_1 ?_
  refine zU_putI d_R_clear_2 f_R_83 p_R_thrown (by decide) rfl rfl (Or.inl rfl) ?_
  refine zU_aload_n d_R_clear_5 rfl ?_
  refine zU_callVv (p0 := 51) [] d_R_clear_6 k_R_105 rfl (by decide) rfl rfl (by decide) (Nat.le_of_ble_eq_true rfl) (fun l => m_R_change l _) (fun μ6 h6 => ?_)
  subst h6
  refine zU.eqM (μ' := (rChg μ 0)) rfl ?_
  refine zU_aload_n d_R_clear_9 rfl ?_
  refine zU_iconst d_R_clear_10 ?_
  refine zU_putI d_R_clear_11 f_R_98 p_R_count (by decide) rfl rfl (Or.inl rfl) ?_
  refine zU_iconst d_R_clear_14 ?_
  refine zU_istore_n d_R_clear_15 (by decide) ?_
  refine zU.eqL (L' := [some (zp 51), some (zi 0)]) rfl ?_
  have hJ16 : ∀ (d : Nat) (e : Nat) (μ1 : zM), e + d = 12 → (∀ j, j < e → μ1 58 j = 0) → (∀ q, q ≠ 58 → μ1 q = (zup (rChg μ 0) 51 1 0) q) → zU Γ b_R_clear n_R 2 none [] (zRm 1 0 20) 0 0 (zFin Γ 0 false (zRv (fun μ' => (μ' 51 0 = 0 ∧ rRep (aClr a) μ' ∧ rNo μ') ∧ (∀ q, (q < 51 ∨ q = 76) → μ' q = μ q)))) false 0 μ1 16 [some (zp 51), some (zi (e : Int))] [] := by
    intro d
    induction d using Nat.strongRecOn with
    | _ d ih16 =>
      intro e μ1 hd hz hq
      refine zU_iload_n d_R_clear_16 rfl ?_
      refine zU_bipush d_R_clear_17 (by decide) ?_
      refine zU_icmp_ge 35 d_R_clear_19 (by decide) (by omega) (by omega) (fun h19 => ?_) (fun h19 => ?_)
      · exact zU_return d_R_clear_35 rfl (by decide) (by decide) (⟨rfl, ⟨by rw [hq 51 (by decide), zup_at, if_neg (by decide)]; exact (rChg_0 μ 0).1, ⟨by rw [hq 51 (by decide), zup_at]; rfl, fun i hi => absurd hi (Nat.not_lt_zero i), fun j hj => ⟨by rw [hz j (by omega)]; rfl, by rw [hq 59 (by decide), zup_ne _ _ _ (by decide), rChg_q μ 0 (by decide)]; exact (hE j hj).2.1, fun h => by cases h⟩⟩, by rw [hq 51 (by decide), zup_at, if_neg (by decide)]; exact (rChg_0 μ 0).2.1, by rw [hq 51 (by decide), zup_at, if_neg (by decide)]; exact (rChg_0 μ 0).2.2⟩, fun q h => by rw [hq q (by omega), zup_ne _ _ _ (by omega), rChg_q μ 0 (by omega)]⟩)
      · refine zU_aload_n d_R_clear_22 rfl ?_
        refine zU_getR 58 d_R_clear_23 f_R_29 (by decide) rfl rfl rfl ?_
        refine zU_iload_n d_R_clear_26 rfl ?_
        refine zU_iconst d_R_clear_27 ?_
        refine zU_zast d_R_clear_28 (by decide) rfl (by decide) (by omega) (by omega) ?_
        refine zU.eqM (μ' := zup μ1 58 e 0) rfl ?_
        refine zU_iinc d_R_clear_29 rfl ?_
        refine zU.eqL (L' := [some (zp 51), some (zi (((e + 1 : Nat) : Int)))]) (by first | rfl | exact congrArg (fun zz : Int => [some (zp 51), some (zi zz)]) (show ((e : Int) + 1 : Int) = ((e + 1 : Nat) : Int) by omega)) ?_
        refine zU_goto 16 d_R_clear_32 (by decide) ?_
        exact ih16 (d - 1) (by omega) (e + 1) _ (by omega) (fun j hj => by rw [zup_at]; by_cases h : j = e; { simp [h] }; { rw [if_neg (by omega)]; exact hz j (by omega) }) (fun q q1 => by rw [zup_ne _ _ _ q1]; exact hq q q1)
  exact hJ16 12 0 _ (by omega) (fun j hj => absurd hj (by omega)) (fun _ _ => rfl)
