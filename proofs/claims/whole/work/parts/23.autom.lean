theorem z4095 : ∀ e, e < 12 → zbt 4095 e = true := by decide
theorem zB_nz {b : Bool} : ¬ zB b = 0 ↔ b = true := by cases b <;> simp [zB]
theorem zB_n1 {b : Bool} : ¬ zB b = 1 ↔ b = false := by cases b <;> simp [zB]
theorem zBr (b : Bool) : -2147483648 ≤ zB b ∧ zB b ≤ 2147483647 := by cases b <;> simp [zB]
theorem zRn {n : Nat} (h : n < 4) : zR 2 n = 3 + 3 * n := by
  have : ∀ n : Nat, n < 4 → zR 2 n = 3 + 3 * n := by decide
  exact this n h
theorem kd (b : Bool) : (if b = true then (0 : Int) else 1) = zB (!b) := by cases b <;> simp [zB]
theorem rng_any (f : Nat → Bool) (i : Nat) : (List.range (i + 1)).any f = ((List.range i).any f || f i) := by
  rw [List.range_succ, List.any_append]
  simp
theorem rng_all (f : Nat → Bool) (i : Nat) : (List.range (i + 1)).all f = ((List.range i).all f && f i) := by
  rw [List.range_succ, List.all_append]
  simp
theorem all_iff {f : Nat → Bool} {n : Nat} : (List.range n).all f = true ↔ ∀ i, i < n → f i = true := by
  simp [List.all_eq_true]
theorem any_iff {f : Nat → Bool} {n : Nat} : (List.range n).any f = true ↔ ∃ i, i < n ∧ f i = true := by
  simp [List.any_eq_true]
theorem all_not {f : Nat → Bool} {n i : Nat} (hi : i < n) (h : f i = false) : (List.range n).all f = false := by
  cases h2 : (List.range n).all f
  · rfl
  · rw [all_iff.mp h2 i hi] at h
    cases h
theorem any_not {f : Nat → Bool} {n : Nat} (h : ∀ i, i < n → f i = false) : (List.range n).any f = false := by
  cases h2 : (List.range n).any f
  · rfl
  · obtain ⟨i, hi, h3⟩ := any_iff.mp h2
    rw [h i hi] at h3
    cases h3
theorem plS0 {x : Int} {f : Nat → Bool} {i : Nat} (h : ∀ j, j < 32 → zbt x j = (decide (j < i) && f j)) (hf : f i = false) : ∀ j, j < 32 → zbt x j = (decide (j < i + 1) && f j) := by
  intro j hj
  rw [h j hj]
  by_cases h1 : j = i
  · subst h1
    simp [hf]
  · have : (j < i + 1) ↔ (j < i) := by omega
    simp [this]
theorem plS1 {x : Int} {f : Nat → Bool} {i : Nat} (hi : i < 32) (h : ∀ j, j < 32 → zbt x j = (decide (j < i) && f j)) (hf : f i = true) : ∀ j, j < 32 → zbt (zor x (zshl 1 (i : Int))) j = (decide (j < i + 1) && f j) := by
  intro j hj
  rw [zbt_or, zb1 hi hj, h j hj]
  by_cases h1 : j = i
  · subst h1
    simp [hf]
  · have : (j < i + 1) ↔ (j < i) := by omega
    simp [this, h1]
theorem zmask0 {x : Int} (hx : -2147483648 ≤ x ∧ x ≤ 2147483647) : x = 0 ↔ ∀ j, j < 32 → zbt x j = false := by
  constructor
  · intro h j _
    rw [h, zbt_zero]
  · intro h
    exact zext hx (by omega) (fun j hj => by rw [h j hj, zbt_zero])
/-! what the class's questions answer, of the automata a, the members mem, the code c -/
def aReady (a : aT) (mem : Nat → Bool) : Bool := (List.range (aN a)).all (fun i => !mem i || decide (0 ≤ aI a i)) && (List.range (aN a)).any (aP a)
def aFirst (a : aT) (mem : Nat → Bool) (j : Nat) : Nat := if j < aN a ∧ mem j = true then (aI a j).toNat else 0
def aGoal (a : aT) (mem : Nat → Bool) (c : Nat) : Bool := (List.range (aN a)).all (fun i => !mem i || aM a i (dig c i))
def aBad (a : aT) (mem : Nat → Bool) (c : Nat) : Bool := (List.range (aN a)).any (fun i => mem i && aF a i (dig c i))
def aMay (a : aT) (c e : Nat) : Bool := (List.range (aN a)).any (fun i => aP a i && aH a i e) && (List.range (aN a)).all (fun i => !aP a i || (!aH a i e || decide (0 ≤ aE a i (dig c i) e)))
def aFree (a : aT) (mem : Nat → Bool) (c e : Nat) : Bool := (List.range (aN a)).all (fun i => !mem i || (!aH a i e || decide (0 ≤ aE a i (dig c i) e)))
def aStep (a : aT) (mem : Nat → Bool) (c e j : Nat) : Nat := if j < aN a ∧ mem j = true ∧ aH a j e = true then (aE a j (dig c j) e).toNat else dig c j
/-- every member's digit is one of its states -/
def aVal (a : aT) (mem : Nat → Bool) (c : Nat) : Prop := c < 4096 ∧ ∀ i, i < aN a → mem i = true → dig c i < aS a i
theorem evS {a : aT} {i s : Nat} {μ : zM} (ha : aOk a) (hA : cAut a i μ) (hs : s < 6) {r : Int} (h : ∀ j, j < 32 → zbt r j = (!zbt (μ (3 + 3 * i) 5) j || zbt (μ (4 + 3 * i) s) j)) : ∀ e, e < 12 → zbt r e = (!aH a i e || decide (0 ≤ aE a i s e)) := by
  intro e he
  rw [h e (by omega), hA.2.2.2.2.2.1.2 e he, (hA.2.2.2.2.2.2 s hs).1.2 e he]
theorem zevr {n : Nat} (h : n ≤ 4) : (-2147483648 ≤ zshl 1 (n : Int) - 1 ∧ zshl 1 (n : Int) - 1 ≤ 2147483647) ∧ ∀ j, j < 4 → zbt (zshl 1 (n : Int) - 1) j = decide (j < n) := by
  have : ∀ n : Nat, n < 5 → (-2147483648 ≤ zshl 1 (n : Int) - 1 ∧ zshl 1 (n : Int) - 1 ≤ 2147483647) ∧ ∀ j, j < 4 → zbt (zshl 1 (n : Int) - 1) j = decide (j < n) := by decide
  exact this n (by omega)
theorem zrd {f : Nat → Bool} {i : Nat} (h : ∀ j, j < i → f j = true) (hf : f i = true) : ∀ j, j < i + 1 → f j = true := by
  intro j hj
  by_cases h1 : j = i
  · rw [h1]; exact hf
  · exact h j (by omega)
theorem zrn {f : Nat → Bool} {i : Nat} (h : ∀ j, j < i → f j = false) (hf : f i = false) : ∀ j, j < i + 1 → f j = false := by
  intro j hj
  by_cases h1 : j = i
  · rw [h1]; exact hf
  · exact h j (by omega)
set_option maxRecDepth 100000 in
set_option maxHeartbeats 4000000 in
theorem m_A_hasState (l : Launch) (μ : zM) {a : aT} (ha : aOk a) (hc : cRep a μ) {x s : Int} (hx : -2147483648 ≤ x ∧ x ≤ 2147483647) (hs : -2147483648 ≤ s ∧ s ≤ 2147483647) :
    zC l y_A_hasState b_A_hasState 3 (some .boolean) [] 1 0 21 true [zp 1, zi x, zi s] μ (zRi (fun r μ' => μ' = μ ∧ r = zB (decide (0 ≤ x ∧ x < aN a ∧ 0 ≤ s ∧ s < aS a x.toNat)))) := by
  refine zC.of (own := n_A) (L := [some (zp 1), some (zi x), some (zi s)]) (by decide) rfl (by simp [zcat]) (Nat.le_of_ble_eq_true rfl) rfl (fun Γ => ?_)
  obtain ⟨hN, hD, hCt, hA⟩ := id hc
  have hN4 := ha.1
  refine zU_aload_n d_A_hasState_0 rfl ?_
  refine zU_iload_n d_A_hasState_1 rfl ?_
  refine zU_callVi (p0 := 1) [zi x] d_A_hasState_2 k_A_36 rfl (by decide) rfl rfl (by decide) (Nat.le_of_ble_eq_true rfl) (fun l => m_A_hasNumber l μ hx (by omega)) (fun r2 μ2 h2 => ?_)
  obtain ⟨hμ2, rfl⟩ := h2
  replace hμ2 := hμ2.symm
  subst hμ2
  refine zU_if_eq 29 d_A_hasState_5 (by decide) (zBr _) (fun h5 => ?_) (fun h5 => ?_)
  · refine zU_iconst d_A_hasState_29 ?_
    exact zU_ireturn d_A_hasState_30 (Or.inr ⟨rfl, by omega⟩) (by decide) (by decide) (⟨_, rfl, rfl, by have h := zB_zero.mp h5; rw [decide_eq_false_iff_not] at h; rw [eq_comm, zB_zero, decide_eq_false_iff_not]; omega⟩)
  · refine zU_iload_n d_A_hasState_8 rfl ?_
    refine zU_if_lt 29 d_A_hasState_9 (by decide) (by omega) (fun h9 => ?_) (fun h9 => ?_)
    · refine zU_iconst d_A_hasState_29 ?_
      exact zU_ireturn d_A_hasState_30 (Or.inr ⟨rfl, by omega⟩) (by decide) (by decide) (⟨_, rfl, rfl, by rw [eq_comm, zB_zero, decide_eq_false_iff_not]; omega⟩)
    · refine zU_iload_n d_A_hasState_12 rfl ?_
      refine zU_aload_n d_A_hasState_13 rfl ?_
      have hq := zB_nz.mp h5
      rw [decide_eq_true_iff] at hq
      obtain ⟨j, hj⟩ : ∃ j : Nat, x = (j : Int) := ⟨x.toNat, by omega⟩
      have h_j : j < 4 := by omega
      have hjn : x.toNat = j := by omega
      refine zU_getR 2 d_A_hasState_14 f_A_11 (by decide) rfl rfl rfl ?_
      refine zU_iload_n d_A_hasState_17 rfl ?_
      refine zU_aald (3 + 3 * j) d_A_hasState_18 (by decide) rfl (by decide) (by omega) (by rw [hj]; exact zRn h_j) ?_
      refine zU_getI (v := (aS a j : Int)) d_A_hasState_19 f_A_40 (zMl h_j) (zMk h_j) rfl ((hA j (by omega)).1) ?_
      refine zU_icmp_ge 29 d_A_hasState_22 (by decide) (by have := (ha.2 j (by omega)).1; omega) (by have := (ha.2 j (by omega)).1; omega) (fun h22 => ?_) (fun h22 => ?_)
      · refine zU_iconst d_A_hasState_29 ?_
        exact zU_ireturn d_A_hasState_30 (Or.inr ⟨rfl, by omega⟩) (by decide) (by decide) (⟨_, rfl, rfl, by rw [eq_comm, zB_zero, decide_eq_false_iff_not, hjn]; omega⟩)
      · refine zU_iconst d_A_hasState_25 ?_
        refine zU_goto 30 d_A_hasState_26 (by decide) ?_
        exact zU_ireturn d_A_hasState_30 (Or.inr ⟨rfl, by omega⟩) (by decide) (by decide) (⟨_, rfl, rfl, by rw [eq_comm, zB_one, decide_eq_true_iff, hjn]; omega⟩)
set_option maxRecDepth 100000 in
set_option maxHeartbeats 4000000 in
theorem m_A_isRule (l : Launch) (μ : zM) {a : aT} (ha : aOk a) (hc : cRep a μ) {x : Int} (hx : -2147483648 ≤ x ∧ x ≤ 2147483647) :
    zC l y_A_isRule b_A_isRule 2 (some .boolean) [] 1 0 21 true [zp 1, zi x] μ (zRi (fun r μ' => μ' = μ ∧ r = zB (decide (0 ≤ x ∧ x < aN a) && !aP a x.toNat))) := by
  refine zC.of (own := n_A) (L := [some (zp 1), some (zi x)]) (by decide) rfl (by simp [zcat]) (Nat.le_of_ble_eq_true rfl) rfl (fun Γ => ?_)
  obtain ⟨hN, hD, hCt, hA⟩ := id hc
  have hN4 := ha.1
  refine zU_aload_n d_A_isRule_0 rfl ?_
  refine zU_iload_n d_A_isRule_1 rfl ?_
  refine zU_callVi (p0 := 1) [zi x] d_A_isRule_2 k_A_36 rfl (by decide) rfl rfl (by decide) (Nat.le_of_ble_eq_true rfl) (fun l => m_A_hasNumber l μ hx (by omega)) (fun r2 μ2 h2 => ?_)
  obtain ⟨hμ2, rfl⟩ := h2
  replace hμ2 := hμ2.symm
  subst hμ2
  refine zU_if_eq 25 d_A_isRule_5 (by decide) (zBr _) (fun h5 => ?_) (fun h5 => ?_)
  · refine zU_iconst d_A_isRule_25 ?_
    exact zU_ireturn d_A_isRule_26 (Or.inr ⟨rfl, by omega⟩) (by decide) (by decide) (⟨_, rfl, rfl, by have h := zB_zero.mp h5; rw [hN] at h; rw [h]; rfl⟩)
  · refine zU_aload_n d_A_isRule_8 rfl ?_
    have hq := zB_nz.mp h5
    rw [decide_eq_true_iff] at hq
    obtain ⟨j, hj⟩ : ∃ j : Nat, x = (j : Int) := ⟨x.toNat, by omega⟩
    have h_j : j < 4 := by omega
    have hjn : x.toNat = j := by omega
    have hq2 : decide (0 ≤ x ∧ x < (aN a : Int)) = true := by rw [decide_eq_true_iff]; omega
    refine zU_getR 2 d_A_isRule_9 f_A_11 (by decide) rfl rfl rfl ?_
    refine zU_iload_n d_A_isRule_12 rfl ?_
    refine zU_aald (3 + 3 * j) d_A_isRule_13 (by decide) rfl (by decide) (by omega) (by rw [hj]; exact zRn h_j) ?_
    refine zU_getI (v := zB (!aP a j)) d_A_isRule_14 f_A_43 (zMl h_j) (zMk h_j) rfl ((hA j (by omega)).2.1.trans (kd _)) ?_
    refine zU_iconst d_A_isRule_17 ?_
    refine zU_icmp_ne 25 d_A_isRule_18 (by decide) (by first | exact zBr _ | omega) (by first | exact zBr _ | omega) (fun h18 => ?_) (fun h18 => ?_)
    · refine zU_iconst d_A_isRule_25 ?_
      exact zU_ireturn d_A_isRule_26 (Or.inr ⟨rfl, by omega⟩) (by decide) (by decide) (⟨_, rfl, rfl, by have h := zB_n1.mp h18; rw [hq2, hjn, h]; rfl⟩)
    · refine zU_iconst d_A_isRule_21 ?_
      refine zU_goto 26 d_A_isRule_22 (by decide) ?_
      exact zU_ireturn d_A_isRule_26 (Or.inr ⟨rfl, by omega⟩) (by decide) (by decide) (⟨_, rfl, rfl, by have h := zB_one.mp h18; rw [hq2, hjn, h]; rfl⟩)
set_option maxRecDepth 100000 in
set_option maxHeartbeats 4000000 in
theorem m_A_everyone (l : Launch) (μ : zM) {a : aT} (ha : aOk a) (hc : cRep a μ) :
    zC l y_A_everyone b_A_everyone 1 (some .int) [] 0 0 0 true [zp 1] μ (zRi (fun r μ' => μ' = μ ∧ (-2147483648 ≤ r ∧ r ≤ 2147483647) ∧ ∀ j, j < 4 → zbt r j = decide (j < aN a))) := by
  refine zC.of (own := n_A) (L := [some (zp 1)]) (by decide) rfl (by simp [zcat]) (Nat.le_of_ble_eq_true rfl) rfl (fun Γ => ?_)
  obtain ⟨hN, hD, hCt, hA⟩ := id hc
  have hN4 := ha.1
  refine zU_iconst d_A_everyone_0 ?_
  refine zU_aload_n d_A_everyone_1 rfl ?_
  refine zU_getI (v := (aN a : Int)) d_A_everyone_2 f_A_18 (by decide) rfl rfl (hN) ?_
  refine zU_ishl d_A_everyone_5 ?_
  refine zU_iconst d_A_everyone_6 ?_
  refine zU_isub d_A_everyone_7 ?_
  exact zU_ireturn d_A_everyone_8 (Or.inl rfl) (by decide) (by decide) (⟨_, rfl, rfl, zevr hN4⟩)
set_option maxRecDepth 100000 in
set_option maxHeartbeats 4000000 in
theorem m_A_plants (l : Launch) (μ : zM) {a : aT} (ha : aOk a) (hc : cRep a μ) :
    zC l y_A_plants b_A_plants 3 (some .int) [] 0 0 0 true [zp 1] μ (zRi (fun r μ' => μ' = μ ∧ (-2147483648 ≤ r ∧ r ≤ 2147483647) ∧ ∀ j, j < 32 → zbt r j = (decide (j < aN a) && aP a j))) := by
  refine zC.of (own := n_A) (L := [some (zp 1), none, none]) (by decide) rfl (by simp [zcat]) (Nat.le_of_ble_eq_true rfl) rfl (fun Γ => ?_)
  obtain ⟨hN, hD, hCt, hA⟩ := id hc
  have hN4 := ha.1
  refine zU_iconst d_A_plants_0 ?_
  refine zU_istore_n d_A_plants_1 (by decide) ?_
  refine zU.eqL (L' := [some (zp 1), some (zi 0), none]) rfl ?_
  refine zU_iconst d_A_plants_2 ?_
  refine zU_istore_n d_A_plants_3 (by decide) ?_
  refine zU.eqL (L' := [some (zp 1), some (zi 0), some (zi 0)]) rfl ?_
  have hJ4 : ∀ (d : Nat) (i : Nat) (x : Int), i + d = aN a → (-2147483648 ≤ x ∧ x ≤ 2147483647) → (∀ j, j < 32 → zbt x j = (decide (j < i) && aP a j)) → zU Γ b_A_plants n_A 3 (some .int) [] (zRm 0 0 0) 0 0 (zFin Γ 0 true (zRi (fun r μ' => μ' = μ ∧ (-2147483648 ≤ r ∧ r ≤ 2147483647) ∧ ∀ j, j < 32 → zbt r j = (decide (j < aN a) && aP a j)))) true 0 μ 4 [some (zp 1), some (zi x), some (zi (i : Int))] [] := by
    intro d
    induction d using Nat.strongRecOn with
    | _ d ih4 =>
      intro i x hd hx hb
      refine zU_iload_n d_A_plants_4 rfl ?_
      refine zU_aload_n d_A_plants_5 rfl ?_
      refine zU_getI (v := (aN a : Int)) d_A_plants_6 f_A_18 (by decide) rfl rfl (hN) ?_
      refine zU_icmp_ge 36 d_A_plants_9 (by decide) (by omega) (by omega) (fun h9 => ?_) (fun h9 => ?_)
      · refine zU_iload_n d_A_plants_36 rfl ?_
        exact zU_ireturn d_A_plants_37 (Or.inl rfl) (by decide) (by decide) (⟨_, rfl, rfl, hx, by have hi : i = aN a := (by omega); subst hi; exact hb⟩)
      · have h_i : i < 4 := by omega
        refine zU_aload_n d_A_plants_12 rfl ?_
        refine zU_getR 2 d_A_plants_13 f_A_11 (by decide) rfl rfl rfl ?_
        refine zU_iload_n d_A_plants_16 rfl ?_
        refine zU_aald (3 + 3 * i) d_A_plants_17 (by decide) rfl (by decide) (by omega) (zRn h_i) ?_
        refine zU_getI (v := zB (!aP a i)) d_A_plants_18 f_A_43 (zMl h_i) (zMk h_i) rfl ((hA i (by omega)).2.1.trans (kd _)) ?_
        refine zU_if_ne 30 d_A_plants_21 (by decide) (zBr _) (fun h21 => ?_) (fun h21 => ?_)
        · refine zU_iinc d_A_plants_30 rfl ?_
          refine zU.eqL (L' := [some (zp 1), some (zi x), some (zi (((i + 1 : Nat) : Int)))]) (by first | rfl | (show _ = _; simp only [List.set]; congr 3; omega)) ?_
          refine zU_goto 4 d_A_plants_33 (by decide) ?_
          exact ih4 (d - 1) (by omega) (i + 1) _ (by omega) hx (plS0 hb (by simpa using zB_nz.mp h21))
        · refine zU_iload_n d_A_plants_24 rfl ?_
          refine zU_iconst d_A_plants_25 ?_
          refine zU_iload_n d_A_plants_26 rfl ?_
          refine zU_ishl d_A_plants_27 ?_
          refine zU_ior d_A_plants_28 ?_
          refine zU_istore_n d_A_plants_29 (by decide) ?_
          refine zU.eqL (L' := [some (zp 1), some (zi (zor x (zshl 1 (i : Int)))), some (zi (i : Int))]) rfl ?_
          refine zU_iinc d_A_plants_30 rfl ?_
          refine zU.eqL (L' := [some (zp 1), some (zi (zor x (zshl 1 (i : Int)))), some (zi (((i + 1 : Nat) : Int)))]) (by first | rfl | (show _ = _; simp only [List.set]; congr 3; omega)) ?_
          refine zU_goto 4 d_A_plants_33 (by decide) ?_
          exact ih4 (d - 1) (by omega) (i + 1) _ (by omega) (zor_r _ _) (plS1 (by omega) hb (by simpa using zB_zero.mp h21))
  exact hJ4 (aN a) 0 0 (by omega) (by omega) (fun j _ => by simp [zbt_zero])
set_option maxRecDepth 100000 in
set_option maxHeartbeats 4000000 in
theorem m_A_areReady (l : Launch) (μ : zM) {a : aT} (ha : aOk a) (hc : cRep a μ) {m : Int} {mem : Nat → Bool} (hm : zmask 4 m mem) :
    zC l y_A_areReady b_A_areReady 3 (some .boolean) [] 1 0 22 true [zp 1, zi m] μ (zRi (fun r μ' => μ' = μ ∧ r = zB (aReady a mem))) := by
  refine zC.of (own := n_A) (L := [some (zp 1), some (zi m), none]) (by decide) rfl (by simp [zcat]) (Nat.le_of_ble_eq_true rfl) rfl (fun Γ => ?_)
  obtain ⟨hN, hD, hCt, hA⟩ := id hc
  have hN4 := ha.1
  refine zU_iconst d_A_areReady_0 ?_
  refine zU_istore_n d_A_areReady_1 (by decide) ?_
  refine zU.eqL (L' := [some (zp 1), some (zi m), some (zi 0)]) rfl ?_
  have hJ2 : ∀ (d : Nat) (i : Nat), i + d = aN a → (∀ j, j < i → (!mem j || decide (0 ≤ aI a j)) = true) → zU Γ b_A_areReady n_A 3 (some .boolean) [] (zRm 1 0 22) 0 0 (zFin Γ 0 true (zRi (fun r μ' => μ' = μ ∧ r = zB (aReady a mem)))) true 0 μ 2 [some (zp 1), some (zi m), some (zi (i : Int))] [] := by
    intro d
    induction d using Nat.strongRecOn with
    | _ d ih2 =>
      intro i hd hb
      refine zU_iload_n d_A_areReady_2 rfl ?_
      refine zU_aload_n d_A_areReady_3 rfl ?_
      refine zU_getI (v := (aN a : Int)) d_A_areReady_4 f_A_18 (by decide) rfl rfl (hN) ?_
      refine zU_icmp_ge 39 d_A_areReady_7 (by decide) (by omega) (by omega) (fun h7 => ?_) (fun h7 => ?_)
      · refine zU_aload_n d_A_areReady_39 rfl ?_
        refine zU_callVi (p0 := 1) [] d_A_areReady_40 k_A_49 rfl (by decide) rfl rfl (by decide) (Nat.le_of_ble_eq_true rfl) (fun l => m_A_plants l μ ha hc) (fun r40 μ40 h40 => ?_)
        obtain ⟨hμ40, hr, hb40⟩ := h40
        replace hμ40 := hμ40.symm
        subst hμ40
        refine zU_if_eq 50 d_A_areReady_43 (by decide) (hr) (fun h43 => ?_) (fun h43 => ?_)
        · refine zU_iconst d_A_areReady_50 ?_
          exact zU_ireturn d_A_areReady_51 (Or.inr ⟨rfl, by omega⟩) (by decide) (by decide) (⟨_, rfl, rfl, by
        rw [eq_comm, zB_zero]
        unfold aReady
        rw [any_not (fun j hj => by have h9 := (zmask0 hr).mp h43 j (by omega); rw [hb40 j (by omega)] at h9; simpa [hj] using h9), Bool.and_false]⟩)
        · refine zU_iconst d_A_areReady_46 ?_
          refine zU_goto 51 d_A_areReady_47 (by decide) ?_
          exact zU_ireturn d_A_areReady_51 (Or.inr ⟨rfl, by omega⟩) (by decide) (by decide) (⟨_, rfl, rfl, by
        rw [eq_comm, zB_one]
        unfold aReady
        have hi : i = aN a := by omega
        subst hi
        rw [all_iff.mpr hb, Bool.true_and]
        cases h9 : (List.range (aN a)).any (aP a)
        · exfalso
          apply h43
          rw [zmask0 hr]
          intro j hj
          rw [hb40 j hj]
          by_cases hj2 : j < aN a
          · have h8 : ¬ aP a j = true := fun h => by rw [any_iff.mpr ⟨j, hj2, h⟩] at h9; cases h9
            simp [h8]
          · simp [hj2]
        · rfl⟩)
      · have h_i : i < 4 := by omega
        refine zU_iload_n d_A_areReady_10 rfl ?_
        refine zU_iload_n d_A_areReady_11 rfl ?_
        refine zU_callSi [zi m, zi (i : Int)] d_A_areReady_12 k_A_32 rfl (by decide) (Nat.le_of_ble_eq_true rfl) (fun l => m_C_hasBit l μ m i hm.1 (by omega)) (fun r12 μ12 h12 => ?_)
        obtain ⟨hμ12, rfl⟩ := h12
        replace hμ12 := hμ12.symm
        subst hμ12
        refine zU_if_eq 33 d_A_areReady_15 (by decide) (zBr _) (fun h15 => ?_) (fun h15 => ?_)
        · refine zU_iinc d_A_areReady_33 rfl ?_
          refine zU.eqL (L' := [some (zp 1), some (zi m), some (zi (((i + 1 : Nat) : Int)))]) (by first | rfl | (show _ = _; simp only [List.set]; congr 3; omega)) ?_
          refine zU_goto 2 d_A_areReady_36 (by decide) ?_
          exact ih2 (d - 1) (by omega) (i + 1) (by omega) (zrd hb (by rw [← hm.2 i h_i, zB_zero.mp h15]; rfl))
        · refine zU_aload_n d_A_areReady_18 rfl ?_
          refine zU_getR 2 d_A_areReady_19 f_A_11 (by decide) rfl rfl rfl ?_
          refine zU_iload_n d_A_areReady_22 rfl ?_
          refine zU_aald (3 + 3 * i) d_A_areReady_23 (by decide) rfl (by decide) (by omega) (zRn h_i) ?_
          refine zU_getI (v := aI a i) d_A_areReady_24 f_A_46 (zMl h_i) (zMk h_i) rfl ((hA i (by omega)).2.2.1) ?_
          refine zU_iconst d_A_areReady_27 ?_
          refine zU_icmp_ne 33 d_A_areReady_28 (by decide) (by first | omega | (have := (ha.2 i (by omega)).2.1; have := (ha.2 i (by omega)).1; omega)) (by first | omega | (have := (ha.2 i (by omega)).2.1; have := (ha.2 i (by omega)).1; omega)) (fun h28 => ?_) (fun h28 => ?_)
          · refine zU_iinc d_A_areReady_33 rfl ?_
            refine zU.eqL (L' := [some (zp 1), some (zi m), some (zi (((i + 1 : Nat) : Int)))]) (by first | rfl | (show _ = _; simp only [List.set]; congr 3; omega)) ?_
            refine zU_goto 2 d_A_areReady_36 (by decide) ?_
            exact ih2 (d - 1) (by omega) (i + 1) (by omega) (zrd hb (by rw [Bool.or_eq_true, decide_eq_true_iff]; right; have := (ha.2 i (by omega)).2.1; omega))
          · refine zU_iconst d_A_areReady_31 ?_
            exact zU_ireturn d_A_areReady_32 (Or.inr ⟨rfl, by omega⟩) (by decide) (by decide) (⟨_, rfl, rfl, by rw [eq_comm, zB_zero]; unfold aReady; rw [all_not (i := i) (by omega) (by rw [← hm.2 i h_i, zB_nz.mp h15]; simp; omega)]; rfl⟩)
  exact hJ2 (aN a) 0 (by omega) (fun j h => absurd h (by omega))
set_option maxRecDepth 100000 in
set_option maxHeartbeats 4000000 in
theorem m_A_isMarked (l : Launch) (μ : zM) {a : aT} (ha : aOk a) (hc : cRep a μ) {m : Int} {mem : Nat → Bool} (hm : zmask 4 m mem) {c : Nat} (hv : aVal a mem c) :
    zC l y_A_isMarked b_A_isMarked 4 (some .boolean) [] 1 0 21 true [zp 1, zi (c : Int), zi m] μ (zRi (fun r μ' => μ' = μ ∧ r = zB (aGoal a mem c))) := by
  refine zC.of (own := n_A) (L := [some (zp 1), some (zi (c : Int)), some (zi m), none]) (by decide) rfl (by simp [zcat]) (Nat.le_of_ble_eq_true rfl) rfl (fun Γ => ?_)
  obtain ⟨hN, hD, hCt, hA⟩ := id hc
  have hN4 := ha.1
  refine zU_iconst d_A_isMarked_0 ?_
  refine zU_istore_n d_A_isMarked_1 (by decide) ?_
  refine zU.eqL (L' := [some (zp 1), some (zi (c : Int)), some (zi m), some (zi 0)]) rfl ?_
  have hJ2 : ∀ (d : Nat) (i : Nat), i + d = aN a → (∀ j, j < i → (!mem j || aM a j (dig c j)) = true) → zU Γ b_A_isMarked n_A 4 (some .boolean) [] (zRm 1 0 21) 0 0 (zFin Γ 0 true (zRi (fun r μ' => μ' = μ ∧ r = zB (aGoal a mem c)))) true 0 μ 2 [some (zp 1), some (zi (c : Int)), some (zi m), some (zi (i : Int))] [] := by
    intro d
    induction d using Nat.strongRecOn with
    | _ d ih2 =>
      intro i hd hb
      refine zU_iload_n d_A_isMarked_2 rfl ?_
      refine zU_aload_n d_A_isMarked_3 rfl ?_
      refine zU_getI (v := (aN a : Int)) d_A_isMarked_4 f_A_18 (by decide) rfl rfl (hN) ?_
      refine zU_icmp_ge 46 d_A_isMarked_7 (by decide) (by omega) (by omega) (fun h7 => ?_) (fun h7 => ?_)
      · refine zU_iconst d_A_isMarked_46 ?_
        exact zU_ireturn d_A_isMarked_47 (Or.inr ⟨rfl, by omega⟩) (by decide) (by decide) (⟨_, rfl, rfl, by rw [eq_comm, zB_one]; unfold aGoal; have hi : i = aN a := (by omega); subst hi; exact all_iff.mpr hb⟩)
      · have h_i : i < 4 := by omega
        refine zU_iload_n d_A_isMarked_10 rfl ?_
        refine zU_iload_n d_A_isMarked_11 rfl ?_
        refine zU_callSi [zi m, zi (i : Int)] d_A_isMarked_12 k_A_32 rfl (by decide) (Nat.le_of_ble_eq_true rfl) (fun l => m_C_hasBit l μ m i hm.1 (by omega)) (fun r12 μ12 h12 => ?_)
        obtain ⟨hμ12, rfl⟩ := h12
        replace hμ12 := hμ12.symm
        subst hμ12
        refine zU_if_eq 40 d_A_isMarked_15 (by decide) (zBr _) (fun h15 => ?_) (fun h15 => ?_)
        · refine zU_iinc d_A_isMarked_40 rfl ?_
          refine zU.eqL (L' := [some (zp 1), some (zi (c : Int)), some (zi m), some (zi (((i + 1 : Nat) : Int)))]) (by first | rfl | (show _ = _; simp only [List.set]; congr 3; omega)) ?_
          refine zU_goto 2 d_A_isMarked_43 (by decide) ?_
          exact ih2 (d - 1) (by omega) (i + 1) (by omega) (zrd hb (by rw [← hm.2 i h_i, zB_zero.mp h15]; rfl))
        · have hdi : dig c i < 6 := by have := hv.2 i (by omega) (by rw [← hm.2 i h_i]; exact zB_nz.mp h15); have := (ha.2 i (by omega)).1; omega
          refine zU_aload_n d_A_isMarked_18 rfl ?_
          refine zU_getR 2 d_A_isMarked_19 f_A_11 (by decide) rfl rfl rfl ?_
          refine zU_iload_n d_A_isMarked_22 rfl ?_
          refine zU_aald (3 + 3 * i) d_A_isMarked_23 (by decide) rfl (by decide) (by omega) (zRn h_i) ?_
          refine zU_getI (v := μ (3 + 3 * i) 3) d_A_isMarked_24 f_A_57 (zMl h_i) (zMk h_i) rfl (rfl) ?_
          refine zU_iload_n d_A_isMarked_27 rfl ?_
          refine zU_iload_n d_A_isMarked_28 rfl ?_
          refine zU_callSi [zi (c : Int), zi (i : Int)] d_A_isMarked_29 k_A_60 rfl (by decide) (Nat.le_of_ble_eq_true rfl) (fun l => m_A_stateIn l μ hv.1 h_i) (fun r29 μ29 h29 => ?_)
          obtain ⟨hμ29, rfl⟩ := h29
          replace hμ29 := hμ29.symm
          subst hμ29
          refine zU_callSi [zi (μ (3 + 3 * i) 3), zi ((dig c i : Int))] d_A_isMarked_32 k_A_32 rfl (by decide) (Nat.le_of_ble_eq_true rfl) (fun l => m_C_hasBit l μ _ (dig c i) (hA i (by omega)).2.2.2.1.1 (by omega)) (fun r32 μ32 h32 => ?_)
          obtain ⟨hμ32, rfl⟩ := h32
          replace hμ32 := hμ32.symm
          subst hμ32
          refine zU_if_ne 40 d_A_isMarked_35 (by decide) (zBr _) (fun h35 => ?_) (fun h35 => ?_)
          · refine zU_iinc d_A_isMarked_40 rfl ?_
            refine zU.eqL (L' := [some (zp 1), some (zi (c : Int)), some (zi m), some (zi (((i + 1 : Nat) : Int)))]) (by first | rfl | (show _ = _; simp only [List.set]; congr 3; omega)) ?_
            refine zU_goto 2 d_A_isMarked_43 (by decide) ?_
            exact ih2 (d - 1) (by omega) (i + 1) (by omega) (zrd hb (by rw [← (hA i (by omega)).2.2.2.1.2 _ hdi, zB_nz.mp h35, Bool.or_true]))
          · refine zU_iconst d_A_isMarked_38 ?_
            exact zU_ireturn d_A_isMarked_39 (Or.inr ⟨rfl, by omega⟩) (by decide) (by decide) (⟨_, rfl, rfl, by rw [eq_comm, zB_zero]; unfold aGoal; rw [all_not (i := i) (by omega) (by rw [← hm.2 i h_i, zB_nz.mp h15, ← (hA i (by omega)).2.2.2.1.2 _ hdi, zB_zero.mp h35]; rfl)]⟩)
  exact hJ2 (aN a) 0 (by omega) (fun j h => absurd h (by omega))
set_option maxRecDepth 100000 in
set_option maxHeartbeats 4000000 in
theorem m_A_isForbidden (l : Launch) (μ : zM) {a : aT} (ha : aOk a) (hc : cRep a μ) {m : Int} {mem : Nat → Bool} (hm : zmask 4 m mem) {c : Nat} (hv : aVal a mem c) :
    zC l y_A_isForbidden b_A_isForbidden 4 (some .boolean) [] 1 0 21 true [zp 1, zi (c : Int), zi m] μ (zRi (fun r μ' => μ' = μ ∧ r = zB (aBad a mem c))) := by
  refine zC.of (own := n_A) (L := [some (zp 1), some (zi (c : Int)), some (zi m), none]) (by decide) rfl (by simp [zcat]) (Nat.le_of_ble_eq_true rfl) rfl (fun Γ => ?_)
  obtain ⟨hN, hD, hCt, hA⟩ := id hc
  have hN4 := ha.1
  refine zU_iconst d_A_isForbidden_0 ?_
  refine zU_istore_n d_A_isForbidden_1 (by decide) ?_
  refine zU.eqL (L' := [some (zp 1), some (zi (c : Int)), some (zi m), some (zi 0)]) rfl ?_
  have hJ2 : ∀ (d : Nat) (i : Nat), i + d = aN a → (∀ j, j < i → (mem j && aF a j (dig c j)) = false) → zU Γ b_A_isForbidden n_A 4 (some .boolean) [] (zRm 1 0 21) 0 0 (zFin Γ 0 true (zRi (fun r μ' => μ' = μ ∧ r = zB (aBad a mem c)))) true 0 μ 2 [some (zp 1), some (zi (c : Int)), some (zi m), some (zi (i : Int))] [] := by
    intro d
    induction d using Nat.strongRecOn with
    | _ d ih2 =>
      intro i hd hb
      refine zU_iload_n d_A_isForbidden_2 rfl ?_
      refine zU_aload_n d_A_isForbidden_3 rfl ?_
      refine zU_getI (v := (aN a : Int)) d_A_isForbidden_4 f_A_18 (by decide) rfl rfl (hN) ?_
      refine zU_icmp_ge 46 d_A_isForbidden_7 (by decide) (by omega) (by omega) (fun h7 => ?_) (fun h7 => ?_)
      · refine zU_iconst d_A_isForbidden_46 ?_
        exact zU_ireturn d_A_isForbidden_47 (Or.inr ⟨rfl, by omega⟩) (by decide) (by decide) (⟨_, rfl, rfl, by rw [eq_comm, zB_zero]; unfold aBad; have hi : i = aN a := (by omega); subst hi; exact any_not hb⟩)
      · have h_i : i < 4 := by omega
        refine zU_iload_n d_A_isForbidden_10 rfl ?_
        refine zU_iload_n d_A_isForbidden_11 rfl ?_
        refine zU_callSi [zi m, zi (i : Int)] d_A_isForbidden_12 k_A_32 rfl (by decide) (Nat.le_of_ble_eq_true rfl) (fun l => m_C_hasBit l μ m i hm.1 (by omega)) (fun r12 μ12 h12 => ?_)
        obtain ⟨hμ12, rfl⟩ := h12
        replace hμ12 := hμ12.symm
        subst hμ12
        refine zU_if_eq 40 d_A_isForbidden_15 (by decide) (zBr _) (fun h15 => ?_) (fun h15 => ?_)
        · refine zU_iinc d_A_isForbidden_40 rfl ?_
          refine zU.eqL (L' := [some (zp 1), some (zi (c : Int)), some (zi m), some (zi (((i + 1 : Nat) : Int)))]) (by first | rfl | (show _ = _; simp only [List.set]; congr 3; omega)) ?_
          refine zU_goto 2 d_A_isForbidden_43 (by decide) ?_
          exact ih2 (d - 1) (by omega) (i + 1) (by omega) (zrn hb (by rw [← hm.2 i h_i, zB_zero.mp h15]; rfl))
        · have hdi : dig c i < 6 := by have := hv.2 i (by omega) (by rw [← hm.2 i h_i]; exact zB_nz.mp h15); have := (ha.2 i (by omega)).1; omega
          refine zU_aload_n d_A_isForbidden_18 rfl ?_
          refine zU_getR 2 d_A_isForbidden_19 f_A_11 (by decide) rfl rfl rfl ?_
          refine zU_iload_n d_A_isForbidden_22 rfl ?_
          refine zU_aald (3 + 3 * i) d_A_isForbidden_23 (by decide) rfl (by decide) (by omega) (zRn h_i) ?_
          refine zU_getI (v := μ (3 + 3 * i) 4) d_A_isForbidden_24 f_A_64 (zMl h_i) (zMk h_i) rfl (rfl) ?_
          refine zU_iload_n d_A_isForbidden_27 rfl ?_
          refine zU_iload_n d_A_isForbidden_28 rfl ?_
          refine zU_callSi [zi (c : Int), zi (i : Int)] d_A_isForbidden_29 k_A_60 rfl (by decide) (Nat.le_of_ble_eq_true rfl) (fun l => m_A_stateIn l μ hv.1 h_i) (fun r29 μ29 h29 => ?_)
          obtain ⟨hμ29, rfl⟩ := h29
          replace hμ29 := hμ29.symm
          subst hμ29
          refine zU_callSi [zi (μ (3 + 3 * i) 4), zi ((dig c i : Int))] d_A_isForbidden_32 k_A_32 rfl (by decide) (Nat.le_of_ble_eq_true rfl) (fun l => m_C_hasBit l μ _ (dig c i) (hA i (by omega)).2.2.2.2.1.1 (by omega)) (fun r32 μ32 h32 => ?_)
          obtain ⟨hμ32, rfl⟩ := h32
          replace hμ32 := hμ32.symm
          subst hμ32
          refine zU_if_eq 40 d_A_isForbidden_35 (by decide) (zBr _) (fun h35 => ?_) (fun h35 => ?_)
          · refine zU_iinc d_A_isForbidden_40 rfl ?_
            refine zU.eqL (L' := [some (zp 1), some (zi (c : Int)), some (zi m), some (zi (((i + 1 : Nat) : Int)))]) (by first | rfl | (show _ = _; simp only [List.set]; congr 3; omega)) ?_
            refine zU_goto 2 d_A_isForbidden_43 (by decide) ?_
            exact ih2 (d - 1) (by omega) (i + 1) (by omega) (zrn hb (by rw [← (hA i (by omega)).2.2.2.2.1.2 _ hdi, zB_zero.mp h35, Bool.and_false]))
          · refine zU_iconst d_A_isForbidden_38 ?_
            exact zU_ireturn d_A_isForbidden_39 (Or.inr ⟨rfl, by omega⟩) (by decide) (by decide) (⟨_, rfl, rfl, by rw [eq_comm, zB_one]; unfold aBad; exact any_iff.mpr ⟨i, by omega, by rw [← hm.2 i h_i, zB_nz.mp h15, ← (hA i (by omega)).2.2.2.2.1.2 _ hdi, zB_nz.mp h35]; rfl⟩⟩)
  exact hJ2 (aN a) 0 (by omega) (fun j h => absurd h (by omega))
set_option maxRecDepth 100000 in
set_option maxHeartbeats 4000000 in
theorem m_A_eventsNotStopped (l : Launch) (μ : zM) {a : aT} (ha : aOk a) (hc : cRep a μ) {m : Int} {mem : Nat → Bool} (hm : zmask 4 m mem) {c : Nat} (hv : aVal a mem c) :
    zC l y_A_eventsNotStopped b_A_eventsNotStopped 5 (some .int) [] 1 0 21 true [zp 1, zi (c : Int), zi m] μ (zRi (fun r μ' => μ' = μ ∧ (-2147483648 ≤ r ∧ r ≤ 2147483647) ∧ ∀ e, e < 12 → zbt r e = aFree a mem c e)) := by
  refine zC.of (own := n_A) (L := [some (zp 1), some (zi (c : Int)), some (zi m), none, none]) (by decide) rfl (by simp [zcat]) (Nat.le_of_ble_eq_true rfl) rfl (fun Γ => ?_)
  obtain ⟨hN, hD, hCt, hA⟩ := id hc
  have hN4 := ha.1
  refine zU_sipush d_A_eventsNotStopped_0 (by decide) ?_
  refine zU_istore_n d_A_eventsNotStopped_3 (by decide) ?_
  refine zU.eqL (L' := [some (zp 1), some (zi (c : Int)), some (zi m), some (zi 4095), none]) rfl ?_
  refine zU_iconst d_A_eventsNotStopped_4 ?_
  refine zU_istore d_A_eventsNotStopped_5 (by decide) ?_
  refine zU.eqL (L' := [some (zp 1), some (zi (c : Int)), some (zi m), some (zi 4095), some (zi 0)]) rfl ?_
  have hJ7 : ∀ (d : Nat) (i : Nat) (x : Int), i + d = aN a → (-2147483648 ≤ x ∧ x ≤ 2147483647) → (∀ e, e < 12 → zbt x e = (List.range i).all (fun i => !mem i || (!aH a i e || decide (0 ≤ aE a i (dig c i) e)))) → zU Γ b_A_eventsNotStopped n_A 5 (some .int) [] (zRm 1 0 21) 0 0 (zFin Γ 0 true (zRi (fun r μ' => μ' = μ ∧ (-2147483648 ≤ r ∧ r ≤ 2147483647) ∧ ∀ e, e < 12 → zbt r e = aFree a mem c e))) true 0 μ 7 [some (zp 1), some (zi (c : Int)), some (zi m), some (zi x), some (zi (i : Int))] [] := by
    intro d
    induction d using Nat.strongRecOn with
    | _ d ih7 =>
      intro i x hd hx hb
      refine zU_iload d_A_eventsNotStopped_7 rfl ?_
      refine zU_aload_n d_A_eventsNotStopped_9 rfl ?_
      refine zU_getI (v := (aN a : Int)) d_A_eventsNotStopped_10 f_A_18 (by decide) rfl rfl (hN) ?_
      refine zU_icmp_ge 50 d_A_eventsNotStopped_13 (by decide) (by omega) (by omega) (fun h13 => ?_) (fun h13 => ?_)
      · refine zU_iload_n d_A_eventsNotStopped_50 rfl ?_
        exact zU_ireturn d_A_eventsNotStopped_51 (Or.inl rfl) (by decide) (by decide) (⟨_, rfl, rfl, hx, by have hi : i = aN a := (by omega); subst hi; exact hb⟩)
      · have h_i : i < 4 := by omega
        refine zU_iload_n d_A_eventsNotStopped_16 rfl ?_
        refine zU_iload d_A_eventsNotStopped_17 rfl ?_
        refine zU_callSi [zi m, zi (i : Int)] d_A_eventsNotStopped_19 k_A_32 rfl (by decide) (Nat.le_of_ble_eq_true rfl) (fun l => m_C_hasBit l μ m i hm.1 (by omega)) (fun r19 μ19 h19 => ?_)
        obtain ⟨hμ19, rfl⟩ := h19
        replace hμ19 := hμ19.symm
        subst hμ19
        refine zU_if_eq 44 d_A_eventsNotStopped_22 (by decide) (zBr _) (fun h22 => ?_) (fun h22 => ?_)
        · refine zU_iinc d_A_eventsNotStopped_44 rfl ?_
          refine zU.eqL (L' := [some (zp 1), some (zi (c : Int)), some (zi m), some (zi x), some (zi (((i + 1 : Nat) : Int)))]) (by first | rfl | (show _ = _; simp only [List.set]; congr 3; omega)) ?_
          refine zU_goto 7 d_A_eventsNotStopped_47 (by decide) ?_
          exact ih7 (d - 1) (by omega) (i + 1) _ (by omega) hx (fun e he => by rw [rng_all, hb e he, ← hm.2 i h_i, zB_zero.mp h22]; simp)
        · have hdi : dig c i < 6 := by have := hv.2 i (by omega) (by rw [← hm.2 i h_i]; exact zB_nz.mp h22); have := (ha.2 i (by omega)).1; omega
          refine zU_iload_n d_A_eventsNotStopped_25 rfl ?_
          refine zU_aload_n d_A_eventsNotStopped_26 rfl ?_
          refine zU_getR 2 d_A_eventsNotStopped_27 f_A_11 (by decide) rfl rfl rfl ?_
          refine zU_iload d_A_eventsNotStopped_30 rfl ?_
          refine zU_aald (3 + 3 * i) d_A_eventsNotStopped_32 (by decide) rfl (by decide) (by omega) (zRn h_i) ?_
          refine zU_iload_n d_A_eventsNotStopped_33 rfl ?_
          refine zU_iload d_A_eventsNotStopped_34 rfl ?_
          refine zU_callSi [zi (c : Int), zi (i : Int)] d_A_eventsNotStopped_36 k_A_60 rfl (by decide) (Nat.le_of_ble_eq_true rfl) (fun l => m_A_stateIn l μ hv.1 h_i) (fun r36 μ36 h36 => ?_)
          obtain ⟨hμ36, rfl⟩ := h36
          replace hμ36 := hμ36.symm
          subst hμ36
          refine zU_callVi (p0 := (3 + 3 * i)) [zi ((dig c i : Int))] d_A_eventsNotStopped_39 k_A_70 rfl (zMl h_i) (zMk h_i) rfl (by decide) (Nat.le_of_ble_eq_true rfl) (fun l => m_M_eventsNotStopped l μ h_i hdi) (fun r39 μ39 h39 => ?_)
          obtain ⟨hμ39, hr39, he39⟩ := h39
          replace hμ39 := hμ39.symm
          subst hμ39
          refine zU_iand d_A_eventsNotStopped_42 ?_
          refine zU_istore_n d_A_eventsNotStopped_43 (by decide) ?_
          refine zU.eqL (L' := [some (zp 1), some (zi (c : Int)), some (zi m), some (zi (zand x (r39))), some (zi (i : Int))]) rfl ?_
          refine zU_iinc d_A_eventsNotStopped_44 rfl ?_
          refine zU.eqL (L' := [some (zp 1), some (zi (c : Int)), some (zi m), some (zi (zand x (r39))), some (zi (((i + 1 : Nat) : Int)))]) (by first | rfl | (show _ = _; simp only [List.set]; congr 3; omega)) ?_
          refine zU_goto 7 d_A_eventsNotStopped_47 (by decide) ?_
          exact ih7 (d - 1) (by omega) (i + 1) _ (by omega) (zand_r _ _) (fun e he => by rw [rng_all, zbt_and, hb e he, evS ha (hA i (by omega)) hdi he39 e he, ← hm.2 i h_i, zB_nz.mp h22]; simp)
  exact hJ7 (aN a) 0 4095 (by omega) (by omega) (fun e he => by rw [z4095 e he]; rfl)
