theorem zb1 {i j : Nat} (hi : i < 32) (hj : j < 32) : zbt (zshl 1 (i : Int)) j = decide (j = i) := by
  rw [zbt_shl _ hi hj, show (1 : Int) = ((1 : Nat) : Int) from rfl, zbt_nat]
  by_cases h : j = i
  · subst h
    simp
  · by_cases h2 : i ≤ j
    · obtain ⟨k, hk⟩ : ∃ k, j - i = k + 1 := ⟨j - i - 1, by omega⟩
      rw [hk]
      simp [h, Nat.testBit_succ]
    · simp [h, h2]
theorem zwb0 {x on : Int} {i j : Nat} (hi : i < 32) (hj : j < 32) (ho : on = 0) : zbt (zand x (zxor (zshl 1 (i : Int)) (-1))) j = if j = i then decide (on = 1) else zbt x j := by
  rw [zbt_and, zbt_not _ hj, zb1 hi hj]
  by_cases h : j = i <;> simp [h, ho]
theorem zwb1 {x on : Int} {i j : Nat} (hi : i < 32) (hj : j < 32) (ho : on = 1) : zbt (zor x (zshl 1 (i : Int))) j = if j = i then decide (on = 1) else zbt x j := by
  rw [zbt_or, zb1 hi hj]
  by_cases h : j = i <;> simp [h, ho]
set_option maxRecDepth 100000 in
set_option maxHeartbeats 4000000 in
theorem m_M_hasEdge (l : Launch) (μ : zM) {i s e : Nat} (h_i : i < 4) (hs : s < 6) (he : e < 32) (hr : -2147483648 ≤ μ (4 + 3 * i) s ∧ μ (4 + 3 * i) s ≤ 2147483647) :
    zC l y_M_hasEdge b_M_hasEdge 3 (some .boolean) [] 1 0 21 true [zp (3 + 3 * i), zi (s : Int), zi (e : Int)] μ (zRi (fun r μ' => μ' = μ ∧ r = zB (zbt (μ (4 + 3 * i) s) e))) := by
  refine zC.of (own := n_M) (L := [some (zp (3 + 3 * i)), some (zi (s : Int)), some (zi (e : Int))]) (by decide) rfl (by simp [zcat]) (Nat.le_of_ble_eq_true rfl) rfl (fun Γ => ?_)
  refine zU_aload_n d_M_hasEdge_0 rfl ?_
  refine zU_getR (4 + 3 * i) d_M_hasEdge_1 f_M_9 (zMl h_i) (zMk h_i) rfl (zMr1 h_i) ?_
  refine zU_iload_n d_M_hasEdge_4 rfl ?_
  refine zU_iald (v := μ (4 + 3 * i) s) d_M_hasEdge_5 (zMl1 h_i) (zMk1 h_i) (by decide) (by omega) (rfl) ?_
  refine zU_iload_n d_M_hasEdge_6 rfl ?_
  refine zU_callSi [zi (μ (4 + 3 * i) s), zi (e : Int)] d_M_hasEdge_7 k_M_37 rfl (by decide) (Nat.le_of_ble_eq_true rfl) (fun l => m_C_hasBit l μ _ e hr he) (fun r7 μ7 h7 => ?_)
  obtain ⟨rfl, rfl⟩ := h7
  exact zU_ireturn d_M_hasEdge_10 (Or.inr ⟨rfl, zB_or _⟩) (by decide) (by decide) (⟨_, rfl, rfl, rfl⟩)
set_option maxRecDepth 100000 in
set_option maxHeartbeats 4000000 in
theorem m_M_eventsNotStopped (l : Launch) (μ : zM) {i s : Nat} (h_i : i < 4) (hs : s < 6) :
    zC l y_M_eventsNotStopped b_M_eventsNotStopped 2 (some .int) [] 0 0 0 true [zp (3 + 3 * i), zi (s : Int)] μ (zRi (fun r μ' => μ' = μ ∧ (-2147483648 ≤ r ∧ r ≤ 2147483647) ∧ ∀ j, j < 32 → zbt r j = (!zbt (μ (3 + 3 * i) 5) j || zbt (μ (4 + 3 * i) s) j))) := by
  refine zC.of (own := n_M) (L := [some (zp (3 + 3 * i)), some (zi (s : Int))]) (by decide) rfl (by simp [zcat]) (Nat.le_of_ble_eq_true rfl) rfl (fun Γ => ?_)
  refine zU_aload_n d_M_eventsNotStopped_0 rfl ?_
  refine zU_getI (v := μ (3 + 3 * i) 5) d_M_eventsNotStopped_1 f_M_34 (zMl h_i) (zMk h_i) rfl (rfl) ?_
  refine zU_iconst d_M_eventsNotStopped_4 ?_
  refine zU_ixor d_M_eventsNotStopped_5 ?_
  refine zU_aload_n d_M_eventsNotStopped_6 rfl ?_
  refine zU_getR (4 + 3 * i) d_M_eventsNotStopped_7 f_M_9 (zMl h_i) (zMk h_i) rfl (zMr1 h_i) ?_
  refine zU_iload_n d_M_eventsNotStopped_10 rfl ?_
  refine zU_iald (v := μ (4 + 3 * i) s) d_M_eventsNotStopped_11 (zMl1 h_i) (zMk1 h_i) (by decide) (by omega) (rfl) ?_
  refine zU_ior d_M_eventsNotStopped_12 ?_
  exact zU_ireturn d_M_eventsNotStopped_13 (Or.inl rfl) (by decide) (by decide) (⟨_, rfl, rfl, zor_r _ _, fun j hj => by rw [zbt_or, zbt_not _ hj]⟩)
set_option maxRecDepth 100000 in
set_option maxHeartbeats 4000000 in
theorem m_M_follow (l : Launch) (μ : zM) {i s e : Nat} (h_i : i < 4) (hs : s < 6) (he : e < 12) :
    zC l y_M_follow b_M_follow 3 (some .int) [] 0 0 0 true [zp (3 + 3 * i), zi (s : Int), zi (e : Int)] μ (zRi (fun r μ' => μ' = μ ∧ r = μ (5 + 3 * i) (12 * s + e))) := by
  refine zC.of (own := n_M) (L := [some (zp (3 + 3 * i)), some (zi (s : Int)), some (zi (e : Int))]) (by decide) rfl (by simp [zcat]) (Nat.le_of_ble_eq_true rfl) rfl (fun Γ => ?_)
  refine zU_aload_n d_M_follow_0 rfl ?_
  refine zU_getR (5 + 3 * i) d_M_follow_1 f_M_15 (zMl h_i) (zMk h_i) rfl (zMr2 h_i) ?_
  refine zU_iload_n d_M_follow_4 rfl ?_
  refine zU_bipush d_M_follow_5 (by decide) ?_
  refine zU_imul d_M_follow_7 ?_
  refine zU_iload_n d_M_follow_8 rfl ?_
  refine zU_iadd d_M_follow_9 ?_
  refine zU_iald (v := μ (5 + 3 * i) (12 * s + e)) d_M_follow_10 (zMl2 h_i) (zMk2 h_i) (by decide) (by omega) (by congr 1; omega) ?_
  exact zU_ireturn d_M_follow_11 (Or.inl rfl) (by decide) (by decide) (⟨_, rfl, rfl, rfl⟩)
set_option maxRecDepth 100000 in
set_option maxHeartbeats 4000000 in
theorem m_M_withBit (l : Launch) (μ : zM) {x : Int} {i : Nat} {on : Int} (hi : i < 32) (ho : on = 0 ∨ on = 1) :
    zC l y_M_withBit b_M_withBit 3 (some .int) [] 0 0 0 true [zi x, zi (i : Int), zi on] μ (zRi (fun r μ' => μ' = μ ∧ (-2147483648 ≤ r ∧ r ≤ 2147483647) ∧ ∀ j, j < 32 → zbt r j = if j = i then decide (on = 1) else zbt x j)) := by
  refine zC.of (own := n_M) (L := [some (zi x), some (zi (i : Int)), some (zi on)]) (by decide) rfl (by simp [zcat]) (Nat.le_of_ble_eq_true rfl) rfl (fun Γ => ?_)
  refine zU_iload_n d_M_withBit_0 rfl ?_
  refine zU_if_eq 12 d_M_withBit_1 (by decide) (by omega) (fun h1 => ?_) (fun h1 => ?_)
  · refine zU_iload_n d_M_withBit_12 rfl ?_
    refine zU_iconst d_M_withBit_13 ?_
    refine zU_iload_n d_M_withBit_14 rfl ?_
    refine zU_ishl d_M_withBit_15 ?_
    refine zU_iconst d_M_withBit_16 ?_
    refine zU_ixor d_M_withBit_17 ?_
    refine zU_iand d_M_withBit_18 ?_
    exact zU_ireturn d_M_withBit_19 (Or.inl rfl) (by decide) (by decide) (⟨_, rfl, rfl, zand_r _ _, fun j hj => zwb0 hi hj (by omega)⟩)
  · refine zU_iload_n d_M_withBit_4 rfl ?_
    refine zU_iconst d_M_withBit_5 ?_
    refine zU_iload_n d_M_withBit_6 rfl ?_
    refine zU_ishl d_M_withBit_7 ?_
    refine zU_ior d_M_withBit_8 ?_
    refine zU_goto 19 d_M_withBit_9 (by decide) ?_
    exact zU_ireturn d_M_withBit_19 (Or.inl rfl) (by decide) (by decide) (⟨_, rfl, rfl, zor_r _ _, fun j hj => zwb1 hi hj (by omega)⟩)
set_option maxRecDepth 100000 in
set_option maxHeartbeats 4000000 in
theorem m_A_hasNumber (l : Launch) (μ : zM) {x : Int} (hx : -2147483648 ≤ x ∧ x ≤ 2147483647) (hc : 0 ≤ μ 1 1 ∧ μ 1 1 ≤ 4) :
    zC l y_A_hasNumber b_A_hasNumber 2 (some .boolean) [] 0 0 0 true [zp 1, zi x] μ (zRi (fun r μ' => μ' = μ ∧ r = zB (decide (0 ≤ x ∧ x < μ 1 1)))) := by
  refine zC.of (own := n_A) (L := [some (zp 1), some (zi x)]) (by decide) rfl (by simp [zcat]) (Nat.le_of_ble_eq_true rfl) rfl (fun Γ => ?_)
  refine zU_iload_n d_A_hasNumber_0 rfl ?_
  refine zU_if_lt 16 d_A_hasNumber_1 (by decide) (by omega) (fun h1 => ?_) (fun h1 => ?_)
  · refine zU_iconst d_A_hasNumber_16 ?_
    exact zU_ireturn d_A_hasNumber_17 (Or.inr ⟨rfl, by omega⟩) (by decide) (by decide) (⟨_, rfl, rfl, by simp [zB]; omega⟩)
  · refine zU_iload_n d_A_hasNumber_4 rfl ?_
    refine zU_aload_n d_A_hasNumber_5 rfl ?_
    refine zU_getI (v := μ 1 1) d_A_hasNumber_6 f_A_18 (by decide) rfl rfl (rfl) ?_
    refine zU_icmp_ge 16 d_A_hasNumber_9 (by decide) (by omega) (by omega) (fun h9 => ?_) (fun h9 => ?_)
    · refine zU_iconst d_A_hasNumber_16 ?_
      exact zU_ireturn d_A_hasNumber_17 (Or.inr ⟨rfl, by omega⟩) (by decide) (by decide) (⟨_, rfl, rfl, by simp [zB]; omega⟩)
    · refine zU_iconst d_A_hasNumber_12 ?_
      refine zU_goto 17 d_A_hasNumber_13 (by decide) ?_
      exact zU_ireturn d_A_hasNumber_17 (Or.inr ⟨rfl, by omega⟩) (by decide) (by decide) (⟨_, rfl, rfl, by simp [zB]; omega⟩)
set_option maxRecDepth 100000 in
set_option maxHeartbeats 4000000 in
theorem m_A_isDeclared (l : Launch) (μ : zM) {e : Nat} (he : e < 32) (hr : -2147483648 ≤ μ 1 2 ∧ μ 1 2 ≤ 2147483647) :
    zC l y_A_isDeclared b_A_isDeclared 2 (some .boolean) [] 1 0 21 true [zp 1, zi (e : Int)] μ (zRi (fun r μ' => μ' = μ ∧ r = zB (zbt (μ 1 2) e))) := by
  refine zC.of (own := n_A) (L := [some (zp 1), some (zi (e : Int))]) (by decide) rfl (by simp [zcat]) (Nat.le_of_ble_eq_true rfl) rfl (fun Γ => ?_)
  refine zU_aload_n d_A_isDeclared_0 rfl ?_
  refine zU_getI (v := μ 1 2) d_A_isDeclared_1 f_A_26 (by decide) rfl rfl (rfl) ?_
  refine zU_iload_n d_A_isDeclared_4 rfl ?_
  refine zU_callSi [zi (μ 1 2), zi (e : Int)] d_A_isDeclared_5 k_A_32 rfl (by decide) (Nat.le_of_ble_eq_true rfl) (fun l => m_C_hasBit l μ _ e hr he) (fun r5 μ5 h5 => ?_)
  obtain ⟨rfl, rfl⟩ := h5
  exact zU_ireturn d_A_isDeclared_8 (Or.inr ⟨rfl, zB_or _⟩) (by decide) (by decide) (⟨_, rfl, rfl, rfl⟩)
set_option maxRecDepth 100000 in
set_option maxHeartbeats 4000000 in
theorem m_A_isControllable (l : Launch) (μ : zM) {e : Nat} (he : e < 32) (hr : -2147483648 ≤ μ 1 3 ∧ μ 1 3 ≤ 2147483647) :
    zC l y_A_isControllable b_A_isControllable 2 (some .boolean) [] 1 0 21 true [zp 1, zi (e : Int)] μ (zRi (fun r μ' => μ' = μ ∧ r = zB (zbt (μ 1 3) e))) := by
  refine zC.of (own := n_A) (L := [some (zp 1), some (zi (e : Int))]) (by decide) rfl (by simp [zcat]) (Nat.le_of_ble_eq_true rfl) rfl (fun Γ => ?_)
  refine zU_aload_n d_A_isControllable_0 rfl ?_
  refine zU_getI (v := μ 1 3) d_A_isControllable_1 f_A_29 (by decide) rfl rfl (rfl) ?_
  refine zU_iload_n d_A_isControllable_4 rfl ?_
  refine zU_callSi [zi (μ 1 3), zi (e : Int)] d_A_isControllable_5 k_A_32 rfl (by decide) (Nat.le_of_ble_eq_true rfl) (fun l => m_C_hasBit l μ _ e hr he) (fun r5 μ5 h5 => ?_)
  obtain ⟨rfl, rfl⟩ := h5
  exact zU_ireturn d_A_isControllable_8 (Or.inr ⟨rfl, zB_or _⟩) (by decide) (by decide) (⟨_, rfl, rfl, rfl⟩)
set_option maxRecDepth 100000 in
set_option maxHeartbeats 4000000 in
theorem m_A_stateIn (l : Launch) (μ : zM) {c i : Nat} (hc : c < 4096) (hi : i < 4) :
    zC l y_A_stateIn b_A_stateIn 2 (some .int) [] 0 0 0 true [zi (c : Int), zi (i : Int)] μ (zRi (fun r μ' => μ' = μ ∧ r = (dig c i : Int))) := by
  refine zC.of (own := n_A) (L := [some (zi (c : Int)), some (zi (i : Int))]) (by decide) rfl (by simp [zcat]) (Nat.le_of_ble_eq_true rfl) rfl (fun Γ => ?_)
  refine zU_iload_n d_A_stateIn_0 rfl ?_
  refine zU_iload_n d_A_stateIn_1 rfl ?_
  refine zU_iconst d_A_stateIn_2 ?_
  refine zU_imul d_A_stateIn_3 ?_
  refine zU_ishr d_A_stateIn_4 ?_
  refine zU_bipush d_A_stateIn_5 (by decide) ?_
  refine zU_iand d_A_stateIn_7 ?_
  exact zU_ireturn d_A_stateIn_8 (Or.inl rfl) (by decide) (by decide) (⟨_, rfl, rfl, zstateIn hc hi⟩)
set_option maxRecDepth 100000 in
set_option maxHeartbeats 4000000 in
theorem m_A_withState (l : Launch) (μ : zM) {c i s : Nat} (hc : c < 4096) (hi : i < 4) (hs : s < 8) :
    zC l y_A_withState b_A_withState 4 (some .int) [] 0 0 0 true [zi (c : Int), zi (i : Int), zi (s : Int)] μ (zRi (fun r μ' => μ' = μ ∧ r = ((cod (fun j => if j = i then s else dig c j) : Nat) : Int))) := by
  refine zC.of (own := n_A) (L := [some (zi (c : Int)), some (zi (i : Int)), some (zi (s : Int)), none]) (by decide) rfl (by simp [zcat]) (Nat.le_of_ble_eq_true rfl) rfl (fun Γ => ?_)
  refine zU_iload_n d_A_withState_0 rfl ?_
  refine zU_iconst d_A_withState_1 ?_
  refine zU_imul d_A_withState_2 ?_
  refine zU_istore_n d_A_withState_3 (by decide) ?_
  refine zU.eqL (L' := [some (zi (c : Int)), some (zi (i : Int)), some (zi (s : Int)), some (zi ((i : Int) * 3))]) rfl ?_
  refine zU_iload_n d_A_withState_4 rfl ?_
  refine zU_bipush d_A_withState_5 (by decide) ?_
  refine zU_iload_n d_A_withState_7 rfl ?_
  refine zU_ishl d_A_withState_8 ?_
  refine zU_iconst d_A_withState_9 ?_
  refine zU_ixor d_A_withState_10 ?_
  refine zU_iand d_A_withState_11 ?_
  refine zU_iload_n d_A_withState_12 rfl ?_
  refine zU_iload_n d_A_withState_13 rfl ?_
  refine zU_ishl d_A_withState_14 ?_
  refine zU_ior d_A_withState_15 ?_
  exact zU_ireturn d_A_withState_16 (Or.inl rfl) (by decide) (by decide) (⟨_, rfl, rfl, zwithState hc hi hs⟩)
