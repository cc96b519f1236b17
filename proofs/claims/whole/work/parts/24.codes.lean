theorem aFirst_lt {a : aT} (ha : aOk a) (mem : Nat → Bool) (j : Nat) : aFirst a mem j < 8 := by
  unfold aFirst
  split
  · next h =>
    have h1 := (ha.2 j h.1).1
    have h2 := (ha.2 j h.1).2.1
    omega
  · omega
theorem fcS0 {f : Nat → Nat} {i c : Nat} (h : c = cod (fun j => if j < i then f j else 0)) (hf : f i = 0) : c = cod (fun j => if j < i + 1 then f j else 0) := by
  rw [h]
  apply cod_congr
  intro j _
  by_cases h1 : j = i
  · subst h1; simp [hf]
  · have : (j < i + 1) ↔ (j < i) := by omega
    simp [this]
theorem fcS1 {f : Nat → Nat} {i c : Nat} (hlt : ∀ j, f j < 8) (h : c = cod (fun j => if j < i then f j else 0)) : cod (fun j => if j = i then f i else dig c j) = cod (fun j => if j < i + 1 then f j else 0) := by
  apply cod_congr
  intro j hj
  rw [h, dig_cod (fun k _ => by split; exact hlt k; omega) hj]
  by_cases h1 : j = i
  · subst h1; simp
  · have : (j < i + 1) ↔ (j < i) := by omega
    simp [h1, this]
theorem aStep_lt {a : aT} (ha : aOk a) (mem : Nat → Bool) {c : Nat} (hv : aVal a mem c) {e : Nat} (he : e < 12) (j : Nat) : aStep a mem c e j < 8 := by
  unfold aStep
  split
  · next h =>
    have h1 := (ha.2 j h.1).1
    have h4 := hv.2 j h.1 h.2.1
    have h2 := ((ha.2 j h.1).2.2 (dig c j) e (by omega) he).1
    omega
  · exact dig_lt _ _
theorem stS0 {f : Nat → Nat} {i c x : Nat} (h : x = cod (fun j => if j < i then f j else dig c j)) (hf : f i = dig c i) : x = cod (fun j => if j < i + 1 then f j else dig c j) := by
  rw [h]
  apply cod_congr
  intro j _
  by_cases h1 : j = i
  · subst h1; simp [hf]
  · have : (j < i + 1) ↔ (j < i) := by omega
    simp [this]
theorem stS1 {f : Nat → Nat} {i c x : Nat} (hlt : ∀ j, f j < 8) (h : x = cod (fun j => if j < i then f j else dig c j)) : cod (fun j => if j = i then f i else dig x j) = cod (fun j => if j < i + 1 then f j else dig c j) := by
  apply cod_congr
  intro j hj
  rw [h, dig_cod (fun k _ => by split; exact hlt k; exact dig_lt _ _) hj]
  by_cases h1 : j = i
  · subst h1; simp
  · have : (j < i + 1) ↔ (j < i) := by omega
    simp [h1, this]
set_option maxRecDepth 100000 in
set_option maxHeartbeats 4000000 in
theorem m_A_firstCode (l : Launch) (μ : zM) {a : aT} (ha : aOk a) (hc : cRep a μ) {m : Int} {mem : Nat → Bool} (hm : zmask 4 m mem) (hI : ∀ i, i < aN a → mem i = true → 0 ≤ aI a i) :
    zC l y_A_firstCode b_A_firstCode 4 (some .int) [] 1 0 23 true [zp 1, zi m] μ (zRi (fun r μ' => μ' = μ ∧ r = ((cod (aFirst a mem) : Nat) : Int))) := by
  refine zC.of (own := n_A) (L := [some (zp 1), some (zi m), none, none]) (by decide) rfl (by simp [zcat]) (Nat.le_of_ble_eq_true rfl) rfl (fun Γ => ?_)
  obtain ⟨hN, hD, hCt, hA⟩ := id hc
  have hN4 := ha.1
  refine zU_iconst d_A_firstCode_0 ?_
  refine zU_istore_n d_A_firstCode_1 (by decide) ?_
  refine zU.eqL (L' := [some (zp 1), some (zi m), some (zi 0), none]) rfl ?_
  refine zU_iconst d_A_firstCode_2 ?_
  refine zU_istore_n d_A_firstCode_3 (by decide) ?_
  refine zU.eqL (L' := [some (zp 1), some (zi m), some (zi 0), some (zi 0)]) rfl ?_
  have hJ4 : ∀ (d : Nat) (i c : Nat), i + d = aN a → c = cod (fun j => if j < i then aFirst a mem j else 0) → zU Γ b_A_firstCode n_A 4 (some .int) [] (zRm 1 0 23) 0 0 (zFin Γ 0 true (zRi (fun r μ' => μ' = μ ∧ r = ((cod (aFirst a mem) : Nat) : Int)))) true 0 μ 4 [some (zp 1), some (zi m), some (zi (c : Int)), some (zi (i : Int))] [] := by
    intro d
    induction d using Nat.strongRecOn with
    | _ d ih4 =>
      intro i c hd hb
      have hc4 : c < 4096 := by rw [hb]; exact cod_lt (fun k _ => by split; exact aFirst_lt ha mem k; omega)
      refine zU_iload_n d_A_firstCode_4 rfl ?_
      refine zU_aload_n d_A_firstCode_5 rfl ?_
      refine zU_getI (v := (aN a : Int)) d_A_firstCode_6 f_A_18 (by decide) rfl rfl (hN) ?_
      refine zU_icmp_ge 41 d_A_firstCode_9 (by decide) (by omega) (by omega) (fun h9 => ?_) (fun h9 => ?_)
      · refine zU_iload_n d_A_firstCode_41 rfl ?_
        exact zU_ireturn d_A_firstCode_42 (Or.inl rfl) (by decide) (by decide) (⟨_, rfl, rfl, by rw [hb]; congr 1; apply cod_congr; intro j hj; by_cases h1 : j < i; { simp [h1] }; { have h2 : ¬ j < aN a := (by omega); simp [h1, aFirst, h2] }⟩)
      · have h_i : i < 4 := by omega
        refine zU_iload_n d_A_firstCode_12 rfl ?_
        refine zU_iload_n d_A_firstCode_13 rfl ?_
        refine zU_callSi [zi m, zi (i : Int)] d_A_firstCode_14 k_A_32 rfl (by decide) (Nat.le_of_ble_eq_true rfl) (fun l => m_C_hasBit l μ m i hm.1 (by omega)) (fun r14 μ14 h14 => ?_)
        obtain ⟨hμ14, rfl⟩ := h14
        replace hμ14 := hμ14.symm
        subst hμ14
        refine zU_if_eq 35 d_A_firstCode_17 (by decide) (zBr _) (fun h17 => ?_) (fun h17 => ?_)
        · refine zU_iinc d_A_firstCode_35 rfl ?_
          refine zU.eqL (L' := [some (zp 1), some (zi m), some (zi (c : Int)), some (zi (((i + 1 : Nat) : Int)))]) (by first | rfl | (show _ = _; simp only [List.set]; congr 3; omega)) ?_
          refine zU_goto 4 d_A_firstCode_38 (by decide) ?_
          exact ih4 (d - 1) (by omega) (i + 1) c (by omega) (fcS0 hb (by unfold aFirst; rw [if_neg (fun h => by have h9 := h.2; rw [← hm.2 i h_i, zB_zero.mp h17] at h9; cases h9)]))
        · have hmi : mem i = true := by rw [← hm.2 i h_i]; exact zB_nz.mp h17
          have hIi := hI i (by omega) hmi
          have hfi : aFirst a mem i = (aI a i).toNat := by unfold aFirst; rw [if_pos ⟨by omega, hmi⟩]
          have hf8 := aFirst_lt ha mem i
          refine zU_iload_n d_A_firstCode_20 rfl ?_
          refine zU_iload_n d_A_firstCode_21 rfl ?_
          refine zU_aload_n d_A_firstCode_22 rfl ?_
          refine zU_getR 2 d_A_firstCode_23 f_A_11 (by decide) rfl rfl rfl ?_
          refine zU_iload_n d_A_firstCode_26 rfl ?_
          refine zU_aald (3 + 3 * i) d_A_firstCode_27 (by decide) rfl (by decide) (by omega) (zRn h_i) ?_
          refine zU_getI (v := ((aFirst a mem i : Nat) : Int)) d_A_firstCode_28 f_A_46 (zMl h_i) (zMk h_i) rfl ((hA i (by omega)).2.2.1.trans (by omega)) ?_
          refine zU_callSi [zi (c : Int), zi (i : Int), zi (((aFirst a mem i : Nat) : Int))] d_A_firstCode_31 k_A_53 rfl (by decide) (Nat.le_of_ble_eq_true rfl) (fun l => m_A_withState l μ hc4 h_i hf8) (fun r31 μ31 h31 => ?_)
          obtain ⟨hμ31, hr31⟩ := h31
          rw [fcS1 (aFirst_lt ha mem) hb] at hr31
          subst hr31
          replace hμ31 := hμ31.symm
          subst hμ31
          refine zU_istore_n d_A_firstCode_34 (by decide) ?_
          refine zU.eqL (L' := [some (zp 1), some (zi m), some (zi (((cod (fun j => if j < i + 1 then aFirst a mem j else 0) : Nat) : Int))), some (zi (i : Int))]) rfl ?_
          refine zU_iinc d_A_firstCode_35 rfl ?_
          refine zU.eqL (L' := [some (zp 1), some (zi m), some (zi (((cod (fun j => if j < i + 1 then aFirst a mem j else 0) : Nat) : Int))), some (zi (((i + 1 : Nat) : Int)))]) (by first | rfl | (show _ = _; simp only [List.set]; congr 3; omega)) ?_
          refine zU_goto 4 d_A_firstCode_38 (by decide) ?_
          exact ih4 (d - 1) (by omega) (i + 1) _ (by omega) rfl
  exact hJ4 (aN a) 0 0 (by omega) rfl
set_option maxRecDepth 100000 in
set_option maxHeartbeats 4000000 in
theorem m_A_eventsOfPlants (l : Launch) (μ : zM) {a : aT} (ha : aOk a) (hc : cRep a μ) {c : Nat} (hv : aVal a (aP a) c) :
    zC l y_A_eventsOfPlants b_A_eventsOfPlants 5 (some .int) [] 1 0 21 true [zp 1, zi (c : Int)] μ (zRi (fun r μ' => μ' = μ ∧ (-2147483648 ≤ r ∧ r ≤ 2147483647) ∧ ∀ e, e < 12 → zbt r e = aMay a c e)) := by
  refine zC.of (own := n_A) (L := [some (zp 1), some (zi (c : Int)), none, none, none]) (by decide) rfl (by simp [zcat]) (Nat.le_of_ble_eq_true rfl) rfl (fun Γ => ?_)
  obtain ⟨hN, hD, hCt, hA⟩ := id hc
  have hN4 := ha.1
  refine zU_iconst d_A_eventsOfPlants_0 ?_
  refine zU_istore_n d_A_eventsOfPlants_1 (by decide) ?_
  refine zU.eqL (L' := [some (zp 1), some (zi (c : Int)), some (zi 0), none, none]) rfl ?_
  refine zU_sipush d_A_eventsOfPlants_2 (by decide) ?_
  refine zU_istore_n d_A_eventsOfPlants_5 (by decide) ?_
  refine zU.eqL (L' := [some (zp 1), some (zi (c : Int)), some (zi 0), some (zi 4095), none]) rfl ?_
  refine zU_iconst d_A_eventsOfPlants_6 ?_
  refine zU_istore d_A_eventsOfPlants_7 (by decide) ?_
  refine zU.eqL (L' := [some (zp 1), some (zi (c : Int)), some (zi 0), some (zi 4095), some (zi 0)]) rfl ?_
  have hJ9 : ∀ (d : Nat) (i : Nat) (x z : Int), i + d = aN a → (∀ e, e < 12 → zbt x e = (List.range i).any (fun i => aP a i && aH a i e)) → (∀ e, e < 12 → zbt z e = (List.range i).all (fun i => !aP a i || (!aH a i e || decide (0 ≤ aE a i (dig c i) e)))) → zU Γ b_A_eventsOfPlants n_A 5 (some .int) [] (zRm 1 0 21) 0 0 (zFin Γ 0 true (zRi (fun r μ' => μ' = μ ∧ (-2147483648 ≤ r ∧ r ≤ 2147483647) ∧ ∀ e, e < 12 → zbt r e = aMay a c e))) true 0 μ 9 [some (zp 1), some (zi (c : Int)), some (zi x), some (zi z), some (zi (i : Int))] [] := by
    intro d
    induction d using Nat.strongRecOn with
    | _ d ih9 =>
      intro i x z hd hx hz
      refine zU_iload d_A_eventsOfPlants_9 rfl ?_
      refine zU_aload_n d_A_eventsOfPlants_11 rfl ?_
      refine zU_getI (v := (aN a : Int)) d_A_eventsOfPlants_12 f_A_18 (by decide) rfl rfl (hN) ?_
      refine zU_icmp_ge 69 d_A_eventsOfPlants_15 (by decide) (by omega) (by omega) (fun h15 => ?_) (fun h15 => ?_)
      · refine zU_iload_n d_A_eventsOfPlants_69 rfl ?_
        refine zU_iload_n d_A_eventsOfPlants_70 rfl ?_
        refine zU_iand d_A_eventsOfPlants_71 ?_
        exact zU_ireturn d_A_eventsOfPlants_72 (Or.inl rfl) (by decide) (by decide) (⟨_, rfl, rfl, zand_r _ _, fun e he => by have hi : i = aN a := (by omega); subst hi; rw [zbt_and, hx e he, hz e he]; rfl⟩)
      · have h_i : i < 4 := by omega
        refine zU_aload_n d_A_eventsOfPlants_18 rfl ?_
        refine zU_getR 2 d_A_eventsOfPlants_19 f_A_11 (by decide) rfl rfl rfl ?_
        refine zU_iload d_A_eventsOfPlants_22 rfl ?_
        refine zU_aald (3 + 3 * i) d_A_eventsOfPlants_24 (by decide) rfl (by decide) (by omega) (zRn h_i) ?_
        refine zU_getI (v := zB (!aP a i)) d_A_eventsOfPlants_25 f_A_43 (zMl h_i) (zMk h_i) rfl ((hA i (by omega)).2.1.trans (kd _)) ?_
        refine zU_if_ne 63 d_A_eventsOfPlants_28 (by decide) (zBr _) (fun h28 => ?_) (fun h28 => ?_)
        · have hpi : aP a i = false := by simpa using zB_nz.mp h28
          refine zU_iinc d_A_eventsOfPlants_63 rfl ?_
          refine zU.eqL (L' := [some (zp 1), some (zi (c : Int)), some (zi x), some (zi z), some (zi (((i + 1 : Nat) : Int)))]) (by first | rfl | (show _ = _; simp only [List.set]; congr 3; omega)) ?_
          refine zU_goto 9 d_A_eventsOfPlants_66 (by decide) ?_
          exact ih9 (d - 1) (by omega) (i + 1) _ _ (by omega) (fun e he => by rw [rng_any, hx e he, hpi]; simp) (fun e he => by rw [rng_all, hz e he, hpi]; simp)
        · have hpi : aP a i = true := by simpa using zB_zero.mp h28
          have hdi : dig c i < 6 := by have := hv.2 i (by omega) hpi; have := (ha.2 i (by omega)).1; omega
          refine zU_iload_n d_A_eventsOfPlants_31 rfl ?_
          refine zU_aload_n d_A_eventsOfPlants_32 rfl ?_
          refine zU_getR 2 d_A_eventsOfPlants_33 f_A_11 (by decide) rfl rfl rfl ?_
          refine zU_iload d_A_eventsOfPlants_36 rfl ?_
          refine zU_aald (3 + 3 * i) d_A_eventsOfPlants_38 (by decide) rfl (by decide) (by omega) (zRn h_i) ?_
          refine zU_getI (v := μ (3 + 3 * i) 5) d_A_eventsOfPlants_39 f_A_67 (zMl h_i) (zMk h_i) rfl (rfl) ?_
          refine zU_ior d_A_eventsOfPlants_42 ?_
          refine zU_istore_n d_A_eventsOfPlants_43 (by decide) ?_
          refine zU.eqL (L' := [some (zp 1), some (zi (c : Int)), some (zi (zor x (μ (3 + 3 * i) 5))), some (zi z), some (zi (i : Int))]) rfl ?_
          refine zU_iload_n d_A_eventsOfPlants_44 rfl ?_
          refine zU_aload_n d_A_eventsOfPlants_45 rfl ?_
          refine zU_getR 2 d_A_eventsOfPlants_46 f_A_11 (by decide) rfl rfl rfl ?_
          refine zU_iload d_A_eventsOfPlants_49 rfl ?_
          refine zU_aald (3 + 3 * i) d_A_eventsOfPlants_51 (by decide) rfl (by decide) (by omega) (zRn h_i) ?_
          refine zU_iload_n d_A_eventsOfPlants_52 rfl ?_
          refine zU_iload d_A_eventsOfPlants_53 rfl ?_
          refine zU_callSi [zi (c : Int), zi (i : Int)] d_A_eventsOfPlants_55 k_A_60 rfl (by decide) (Nat.le_of_ble_eq_true rfl) (fun l => m_A_stateIn l μ hv.1 h_i) (fun r55 μ55 h55 => ?_)
          obtain ⟨hμ55, rfl⟩ := h55
          replace hμ55 := hμ55.symm
          subst hμ55
          refine zU_callVi (p0 := (3 + 3 * i)) [zi ((dig c i : Int))] d_A_eventsOfPlants_58 k_A_70 rfl (zMl h_i) (zMk h_i) rfl (by decide) (Nat.le_of_ble_eq_true rfl) (fun l => m_M_eventsNotStopped l μ h_i hdi) (fun r58 μ58 h58 => ?_)
          obtain ⟨hμ58, hr58, he58⟩ := h58
          replace hμ58 := hμ58.symm
          subst hμ58
          refine zU_iand d_A_eventsOfPlants_61 ?_
          refine zU_istore_n d_A_eventsOfPlants_62 (by decide) ?_
          refine zU.eqL (L' := [some (zp 1), some (zi (c : Int)), some (zi (zor x (μ (3 + 3 * i) 5))), some (zi (zand z (r58))), some (zi (i : Int))]) rfl ?_
          refine zU_iinc d_A_eventsOfPlants_63 rfl ?_
          refine zU.eqL (L' := [some (zp 1), some (zi (c : Int)), some (zi (zor x (μ (3 + 3 * i) 5))), some (zi (zand z (r58))), some (zi (((i + 1 : Nat) : Int)))]) (by first | rfl | (show _ = _; simp only [List.set]; congr 3; omega)) ?_
          refine zU_goto 9 d_A_eventsOfPlants_66 (by decide) ?_
          exact ih9 (d - 1) (by omega) (i + 1) _ _ (by omega) (fun e he => by rw [rng_any, zbt_or, hx e he, (hA i (by omega)).2.2.2.2.2.1.2 e he, hpi]; simp) (fun e he => by rw [rng_all, zbt_and, hz e he, evS ha (hA i (by omega)) hdi he58 e he, hpi]; simp)
  exact hJ9 (aN a) 0 0 4095 (by omega) (fun e he => by rw [zbt_zero]; rfl) (fun e he => by rw [z4095 e he]; rfl)
set_option maxRecDepth 100000 in
set_option maxHeartbeats 4000000 in
theorem m_A_step (l : Launch) (μ : zM) {a : aT} (ha : aOk a) (hc : cRep a μ) {m : Int} {mem : Nat → Bool} (hm : zmask 4 m mem) {c e : Nat} (hv : aVal a mem c) (he : e < 12) (hfr : ∀ i, i < aN a → mem i = true → aH a i e = true → 0 ≤ aE a i (dig c i) e) :
    zC l y_A_step b_A_step 6 (some .int) [] 1 0 23 true [zp 1, zi (c : Int), zi (e : Int), zi m] μ (zRi (fun r μ' => μ' = μ ∧ r = ((cod (aStep a mem c e) : Nat) : Int))) := by
  refine zC.of (own := n_A) (L := [some (zp 1), some (zi (c : Int)), some (zi (e : Int)), some (zi m), none, none]) (by decide) rfl (by simp [zcat]) (Nat.le_of_ble_eq_true rfl) rfl (fun Γ => ?_)
  obtain ⟨hN, hD, hCt, hA⟩ := id hc
  have hN4 := ha.1
  refine zU_iload_n d_A_step_0 rfl ?_
  refine zU_istore d_A_step_1 (by decide) ?_
  refine zU.eqL (L' := [some (zp 1), some (zi (c : Int)), some (zi (e : Int)), some (zi m), some (zi (c : Int)), none]) rfl ?_
  refine zU_iconst d_A_step_3 ?_
  refine zU_istore d_A_step_4 (by decide) ?_
  refine zU.eqL (L' := [some (zp 1), some (zi (c : Int)), some (zi (e : Int)), some (zi m), some (zi (c : Int)), some (zi 0)]) rfl ?_
  have hJ6 : ∀ (d : Nat) (i x : Nat), i + d = aN a → x = cod (fun j => if j < i then aStep a mem c e j else dig c j) → zU Γ b_A_step n_A 6 (some .int) [] (zRm 1 0 23) 0 0 (zFin Γ 0 true (zRi (fun r μ' => μ' = μ ∧ r = ((cod (aStep a mem c e) : Nat) : Int)))) true 0 μ 6 [some (zp 1), some (zi (c : Int)), some (zi (e : Int)), some (zi m), some (zi (x : Int)), some (zi (i : Int))] [] := by
    intro d
    induction d using Nat.strongRecOn with
    | _ d ih6 =>
      intro i x hd hb
      have hx4 : x < 4096 := by rw [hb]; exact cod_lt (fun k _ => by split; exact aStep_lt ha mem hv he k; exact dig_lt _ _)
      refine zU_iload d_A_step_6 rfl ?_
      refine zU_aload_n d_A_step_8 rfl ?_
      refine zU_getI (v := (aN a : Int)) d_A_step_9 f_A_18 (by decide) rfl rfl (hN) ?_
      refine zU_icmp_ge 73 d_A_step_12 (by decide) (by omega) (by omega) (fun h12 => ?_) (fun h12 => ?_)
      · refine zU_iload d_A_step_73 rfl ?_
        exact zU_ireturn d_A_step_75 (Or.inl rfl) (by decide) (by decide) (⟨_, rfl, rfl, by rw [hb]; congr 1; apply cod_congr; intro j hj; by_cases h1 : j < i; { simp [h1] }; { have h2 : ¬ j < aN a := (by omega); simp [h1, aStep, h2] }⟩)
      · have h_i : i < 4 := by omega
        refine zU_iload_n d_A_step_15 rfl ?_
        refine zU_iload d_A_step_16 rfl ?_
        refine zU_callSi [zi m, zi (i : Int)] d_A_step_18 k_A_32 rfl (by decide) (Nat.le_of_ble_eq_true rfl) (fun l => m_C_hasBit l μ m i hm.1 (by omega)) (fun r18 μ18 h18 => ?_)
        obtain ⟨hμ18, rfl⟩ := h18
        replace hμ18 := hμ18.symm
        subst hμ18
        refine zU_if_eq 67 d_A_step_21 (by decide) (zBr _) (fun h21 => ?_) (fun h21 => ?_)
        · refine zU_iinc d_A_step_67 rfl ?_
          refine zU.eqL (L' := [some (zp 1), some (zi (c : Int)), some (zi (e : Int)), some (zi m), some (zi (x : Int)), some (zi (((i + 1 : Nat) : Int)))]) (by first | rfl | (show _ = _; simp only [List.set]; congr 3; omega)) ?_
          refine zU_goto 6 d_A_step_70 (by decide) ?_
          exact ih6 (d - 1) (by omega) (i + 1) x (by omega) (stS0 hb (by unfold aStep; rw [if_neg (fun h => by have h9 := h.2.1; rw [← hm.2 i h_i, zB_zero.mp h21] at h9; cases h9)]))
        · have hmi : mem i = true := by rw [← hm.2 i h_i]; exact zB_nz.mp h21
          refine zU_aload_n d_A_step_24 rfl ?_
          refine zU_getR 2 d_A_step_25 f_A_11 (by decide) rfl rfl rfl ?_
          refine zU_iload d_A_step_28 rfl ?_
          refine zU_aald (3 + 3 * i) d_A_step_30 (by decide) rfl (by decide) (by omega) (zRn h_i) ?_
          refine zU_getI (v := μ (3 + 3 * i) 5) d_A_step_31 f_A_67 (zMl h_i) (zMk h_i) rfl (rfl) ?_
          refine zU_iload_n d_A_step_34 rfl ?_
          refine zU_callSi [zi (μ (3 + 3 * i) 5), zi (e : Int)] d_A_step_35 k_A_32 rfl (by decide) (Nat.le_of_ble_eq_true rfl) (fun l => m_C_hasBit l μ _ e (hA i (by omega)).2.2.2.2.2.1.1 (by omega)) (fun r35 μ35 h35 => ?_)
          obtain ⟨hμ35, rfl⟩ := h35
          replace hμ35 := hμ35.symm
          subst hμ35
          refine zU_if_eq 67 d_A_step_38 (by decide) (zBr _) (fun h38 => ?_) (fun h38 => ?_)
          · refine zU_iinc d_A_step_67 rfl ?_
            refine zU.eqL (L' := [some (zp 1), some (zi (c : Int)), some (zi (e : Int)), some (zi m), some (zi (x : Int)), some (zi (((i + 1 : Nat) : Int)))]) (by first | rfl | (show _ = _; simp only [List.set]; congr 3; omega)) ?_
            refine zU_goto 6 d_A_step_70 (by decide) ?_
            exact ih6 (d - 1) (by omega) (i + 1) x (by omega) (stS0 hb (by unfold aStep; rw [if_neg (fun h => by have h9 := h.2.2; rw [← (hA i (by omega)).2.2.2.2.2.1.2 e he, zB_zero.mp h38] at h9; cases h9)]))
          · have hhi : aH a i e = true := by rw [← (hA i (by omega)).2.2.2.2.2.1.2 e he]; exact zB_nz.mp h38
            have hdi : dig c i < 6 := by have := hv.2 i (by omega) hmi; have := (ha.2 i (by omega)).1; omega
            have hE := hfr i (by omega) hmi hhi
            have hfi : aStep a mem c e i = (aE a i (dig c i) e).toNat := by unfold aStep; rw [if_pos ⟨by omega, hmi, hhi⟩]
            have hf8 := aStep_lt ha mem hv he i
            refine zU_iload d_A_step_41 rfl ?_
            refine zU_iload d_A_step_43 rfl ?_
            refine zU_aload_n d_A_step_45 rfl ?_
            refine zU_getR 2 d_A_step_46 f_A_11 (by decide) rfl rfl rfl ?_
            refine zU_iload d_A_step_49 rfl ?_
            refine zU_aald (3 + 3 * i) d_A_step_51 (by decide) rfl (by decide) (by omega) (zRn h_i) ?_
            refine zU_iload_n d_A_step_52 rfl ?_
            refine zU_iload d_A_step_53 rfl ?_
            refine zU_callSi [zi (c : Int), zi (i : Int)] d_A_step_55 k_A_60 rfl (by decide) (Nat.le_of_ble_eq_true rfl) (fun l => m_A_stateIn l μ hv.1 h_i) (fun r55 μ55 h55 => ?_)
            obtain ⟨hμ55, rfl⟩ := h55
            replace hμ55 := hμ55.symm
            subst hμ55
            refine zU_iload_n d_A_step_58 rfl ?_
            refine zU_callVi (p0 := (3 + 3 * i)) [zi ((dig c i : Int)), zi (e : Int)] d_A_step_59 k_A_74 rfl (zMl h_i) (zMk h_i) rfl (by decide) (Nat.le_of_ble_eq_true rfl) (fun l => m_M_follow l μ h_i hdi he) (fun r59 μ59 h59 => ?_)
            obtain ⟨hμ59, hr59⟩ := h59
            rw [((hA i (by omega)).2.2.2.2.2.2 (dig c i) hdi).2 e he hE, show aE a i (dig c i) e = ((aStep a mem c e i : Nat) : Int) by omega] at hr59
            subst hr59
            replace hμ59 := hμ59.symm
            subst hμ59
            refine zU_callSi [zi (x : Int), zi (i : Int), zi (((aStep a mem c e i : Nat) : Int))] d_A_step_62 k_A_53 rfl (by decide) (Nat.le_of_ble_eq_true rfl) (fun l => m_A_withState l μ hx4 h_i hf8) (fun r62 μ62 h62 => ?_)
            obtain ⟨hμ62, hr62⟩ := h62
            rw [stS1 (aStep_lt ha mem hv he) hb] at hr62
            subst hr62
            replace hμ62 := hμ62.symm
            subst hμ62
            refine zU_istore d_A_step_65 (by decide) ?_
            refine zU.eqL (L' := [some (zp 1), some (zi (c : Int)), some (zi (e : Int)), some (zi m), some (zi (((cod (fun j => if j < i + 1 then aStep a mem c e j else dig c j) : Nat) : Int))), some (zi (i : Int))]) rfl ?_
            refine zU_iinc d_A_step_67 rfl ?_
            refine zU.eqL (L' := [some (zp 1), some (zi (c : Int)), some (zi (e : Int)), some (zi m), some (zi (((cod (fun j => if j < i + 1 then aStep a mem c e j else dig c j) : Nat) : Int))), some (zi (((i + 1 : Nat) : Int)))]) (by first | rfl | (show _ = _; simp only [List.set]; congr 3; omega)) ?_
            refine zU_goto 6 d_A_step_70 (by decide) ?_
            exact ih6 (d - 1) (by omega) (i + 1) _ (by omega) rfl
  exact hJ6 (aN a) 0 c (by omega) (by rw [show (fun j => if j < 0 then aStep a mem c e j else dig c j) = dig c from by funext j; simp]; exact (cod_dig hv.1).symm)
