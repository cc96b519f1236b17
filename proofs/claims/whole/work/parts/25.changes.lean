/-! changes of the automata -/
def aAdd (a : aT) (n : Nat) (p : Bool) : aT := (aN a + 1, fun i => if i = aN a then n else aS a i, fun i => if i = aN a then p else aP a i, fun i => if i = aN a then -1 else aI a i, fun i s => if i = aN a then false else aM a i s, fun i s => if i = aN a then false else aF a i s, fun i s e => if i = aN a then -1 else aE a i s e, aD a, aC a)
def aDecl (a : aT) (e : Nat) (b : Bool) : aT := (aN a, aS a, aP a, aI a, aM a, aF a, aE a, fun j => if j = e then true else aD a j, fun j => if j = e then b else aC a j)
def aEdge (a : aT) (i s e : Nat) (t : Int) : aT := (aN a, aS a, aP a, aI a, aM a, aF a, fun i' s' e' => if i' = i ∧ s' = s ∧ e' = e then t else aE a i' s' e', aD a, aC a)
def aIni (a : aT) (i : Nat) (v : Int) : aT := (aN a, aS a, aP a, fun j => if j = i then v else aI a j, aM a, aF a, aE a, aD a, aC a)
def aMrk (a : aT) (i s : Nat) (b : Bool) : aT := (aN a, aS a, aP a, aI a, fun i' s' => if i' = i ∧ s' = s then b else aM a i' s', aF a, aE a, aD a, aC a)
def aFbd (a : aT) (i s : Nat) (b : Bool) : aT := (aN a, aS a, aP a, aI a, aM a, fun i' s' => if i' = i ∧ s' = s then b else aF a i' s', aE a, aD a, aC a)
def aTell (a : aT) (i s w : Nat) (on : Bool) : aT := if w = 0 then (if on = true then aIni a i s else if aI a i = s then aIni a i (-1) else a) else if w = 1 then aMrk a i s on else aFbd a i s on
def aClr (a : aT) : aT := (0, aS a, aP a, aI a, aM a, aF a, aE a, fun _ => false, fun _ => false)
theorem cAut_congr {a a' : aT} {i : Nat} {μ μ' : zM} (h : cAut a i μ) (h0 : μ' (3 + 3 * i) = μ (3 + 3 * i)) (h1 : μ' (4 + 3 * i) = μ (4 + 3 * i)) (h2 : μ' (5 + 3 * i) = μ (5 + 3 * i))
    (e0 : aS a' i = aS a i) (e1 : aP a' i = aP a i) (e2 : aI a' i = aI a i) (e3 : aM a' i = aM a i) (e4 : aF a' i = aF a i) (e5 : aE a' i = aE a i) : cAut a' i μ' := by
  have e6 : aH a' i = aH a i := by funext e; simp [aH, e5]
  unfold cAut
  rw [h0, h1, h2, e0, e1, e2, e3, e4, e5, e6]
  exact h
theorem cRep_congr {a : aT} {μ μ' : zM} (h : cRep a μ) (hq : ∀ q, (q = 1 ∨ (3 ≤ q ∧ q ≤ 14)) → μ' q = μ q) (ha : aOk a) : cRep a μ' := by
  obtain ⟨h1, h2, h3, h4⟩ := h
  have e1 := hq 1 (Or.inl rfl)
  refine ⟨by rw [e1]; exact h1, by rw [e1]; exact h2, by rw [e1]; exact h3, fun i hi => ?_⟩
  have := ha.1
  exact cAut_congr (h4 i hi) (hq _ (Or.inr (by omega))) (hq _ (Or.inr (by omega))) (hq _ (Or.inr (by omega))) rfl rfl rfl rfl rfl rfl
theorem zmask_zero {n : Nat} {f : Nat → Bool} (h : ∀ j, j < n → f j = false) : zmask n 0 f := ⟨by omega, fun j hj => by rw [zbt_zero, h j hj]⟩
/-- an automaton that has just begun; the row of its events is cleared below j -/
def zBeg (μ : zM) (i : Nat) (n k : Int) (j : Nat) (μ1 : zM) : Prop := μ1 (3 + 3 * i) 0 = n ∧ μ1 (3 + 3 * i) 1 = k ∧ μ1 (3 + 3 * i) 2 = -1 ∧ μ1 (3 + 3 * i) 3 = 0 ∧ μ1 (3 + 3 * i) 4 = 0 ∧ μ1 (3 + 3 * i) 5 = 0 ∧ (∀ s, s < j → μ1 (4 + 3 * i) s = 0) ∧ ∀ q, q ≠ 3 + 3 * i → q ≠ 4 + 3 * i → μ1 q = μ q
theorem zBeg_step {μ μ1 : zM} {i j : Nat} {n k : Int} (h : zBeg μ i n k j μ1) : zBeg μ i n k (j + 1) (zup μ1 (4 + 3 * i) j 0) := by
  obtain ⟨h0, h1, h2, h3, h4, h5, h6, h7⟩ := h
  have hne : ¬ (3 + 3 * i = 4 + 3 * i) := by omega
  refine ⟨by rw [zup_ne _ _ _ hne]; exact h0, by rw [zup_ne _ _ _ hne]; exact h1, by rw [zup_ne _ _ _ hne]; exact h2, by rw [zup_ne _ _ _ hne]; exact h3, by rw [zup_ne _ _ _ hne]; exact h4, by rw [zup_ne _ _ _ hne]; exact h5, fun s hs => ?_, fun q hq1 hq2 => by rw [zup_ne _ _ _ hq2]; exact h7 q hq1 hq2⟩
  rw [zup_at]
  by_cases hsj : s = j
  · simp [hsj]
  · simp only [hsj, and_false, if_false]
    exact h6 s (by omega)
theorem cRep_add {a : aT} {μ μ1 : zM} {n : Nat} {p : Bool} (ha : aOk a) (hc : cRep a μ) (hN : aN a < 4) (hb : zBeg μ (aN a) n (zB (!p)) 6 μ1) : cRep (aAdd a n p) (zup μ1 1 1 ((aN a : Int) + 1)) := by
  obtain ⟨c1, c2, c3, c4⟩ := hc
  obtain ⟨h0, h1, h2, h3, h4, h5, h6, h7⟩ := hb
  have e1 : μ1 1 = μ 1 := h7 1 (by omega) (by omega)
  refine ⟨by rw [zup_at]; simp [aAdd, aN], by rw [zup_at]; simp only [show ¬ (2 = 1) by decide, and_false, if_false, e1]; exact c2, by rw [zup_at]; simp only [show ¬ (3 = 1) by decide, and_false, if_false, e1]; exact c3, fun i hi => ?_⟩
  have hi' : i < aN a + 1 := hi
  by_cases hiN : i = aN a
  · subst hiN
    have f0 : zup μ1 1 1 ((aN a : Int) + 1) (3 + 3 * aN a) = μ1 (3 + 3 * aN a) := zup_ne _ _ _ (by omega)
    have f1 : zup μ1 1 1 ((aN a : Int) + 1) (4 + 3 * aN a) = μ1 (4 + 3 * aN a) := zup_ne _ _ _ (by omega)
    have hE : ∀ s e, aE (aAdd a n p) (aN a) s e = -1 := fun s e => by simp [aAdd, aE]
    unfold cAut
    rw [f0, f1, h0, h1, h2, h3, h4, h5]
    refine ⟨by simp [aAdd, aS], by rw [kd]; simp [aAdd, aP], by simp [aAdd, aI], zmask_zero (fun j _ => by simp [aAdd, aM]), zmask_zero (fun j _ => by simp [aAdd, aF]), zmask_zero (fun e _ => any_not (fun s _ => by rw [hE]; rfl)), fun s hs => ⟨by rw [h6 s hs]; exact zmask_zero (fun e _ => by rw [hE]; rfl), fun e _ hp => ?_⟩⟩
    rw [hE] at hp
    omega
  · have hi2 : i < aN a := by omega
    refine cAut_congr (c4 i hi2) ?_ ?_ ?_ (by simp [aAdd, aS, hiN]) (by simp [aAdd, aP, hiN]) (by simp [aAdd, aI, hiN]) (by funext s; simp [aAdd, aM, hiN]) (by funext s; simp [aAdd, aF, hiN]) (by funext s e; simp [aAdd, aE, hiN])
    · rw [zup_ne _ _ _ (by omega)]; exact h7 _ (by omega) (by omega)
    · rw [zup_ne _ _ _ (by omega)]; exact h7 _ (by omega) (by omega)
    · rw [zup_ne _ _ _ (by omega)]; exact h7 _ (by omega) (by omega)
theorem aOk_add {a : aT} {n : Nat} {p : Bool} (ha : aOk a) (hN : aN a < 4) (hn : 1 ≤ n ∧ n ≤ 6) : aOk (aAdd a n p) := by
  refine ⟨by show aN a + 1 ≤ 4; omega, fun i hi => ?_⟩
  have hi' : i < aN a + 1 := hi
  by_cases hiN : i = aN a
  · subst hiN
    refine ⟨by simp [aAdd, aS]; omega, by simp [aAdd, aS, aI]; omega, fun s e hs he => ⟨by simp [aAdd, aE, aS]; omega, fun _ => by simp [aAdd, aE], fun h => ?_⟩⟩
    have : aE (aAdd a n p) (aN a) s e = -1 := by simp [aAdd, aE]
    omega
  · have := ha.2 i (by omega)
    simpa [aAdd, aS, aI, aE, aD, hiN] using this
set_option maxRecDepth 100000 in
set_option maxHeartbeats 4000000 in
theorem m_M_begin (l : Launch) (μ : zM) {i : Nat} {n k : Int} (h_i : i < 4) :
    zC l y_M_begin b_M_begin 4 none [] 0 0 0 false [zp (3 + 3 * i), zi n, zi k] μ (zRv (fun μ' => zBeg μ i n k 6 μ')) := by
  refine zC.of (own := n_M) (L := [some (zp (3 + 3 * i)), some (zi n), some (zi k), none]) (by decide) rfl (by simp [zcat]) (Nat.le_of_ble_eq_true rfl) rfl (fun Γ => ?_)
  refine zU_aload_n d_M_begin_0 rfl ?_
  refine zU_iload_n d_M_begin_1 rfl ?_
  refine zU_putI d_M_begin_2 f_M_18 p_M_states (zMl h_i) (zMk h_i) rfl (Or.inl rfl) ?_
  refine zU_aload_n d_M_begin_5 rfl ?_
  refine zU_iload_n d_M_begin_6 rfl ?_
  refine zU_putI d_M_begin_7 f_M_22 p_M_kind (zMl h_i) (zMk h_i) rfl (Or.inl rfl) ?_
  refine zU_aload_n d_M_begin_10 rfl ?_
  refine zU_iconst d_M_begin_11 ?_
  refine zU_putI d_M_begin_12 f_M_25 p_M_initial (zMl h_i) (zMk h_i) rfl (Or.inl rfl) ?_
  refine zU_aload_n d_M_begin_15 rfl ?_
  refine zU_iconst d_M_begin_16 ?_
  refine zU_putI d_M_begin_17 f_M_28 p_M_markedStates (zMl h_i) (zMk h_i) rfl (Or.inl rfl) ?_
  refine zU_aload_n d_M_begin_20 rfl ?_
  refine zU_iconst d_M_begin_21 ?_
  refine zU_putI d_M_begin_22 f_M_31 p_M_forbiddenStates (zMl h_i) (zMk h_i) rfl (Or.inl rfl) ?_
  refine zU_aload_n d_M_begin_25 rfl ?_
  refine zU_iconst d_M_begin_26 ?_
  refine zU_putI d_M_begin_27 f_M_34 p_M_events (zMl h_i) (zMk h_i) rfl (Or.inl rfl) ?_
  refine zU_iconst d_M_begin_30 ?_
  refine zU_istore_n d_M_begin_31 (by decide) ?_
  refine zU.eqL (L' := [some (zp (3 + 3 * i)), some (zi n), some (zi k), some (zi 0)]) rfl ?_
  have hJ32 : ∀ (d : Nat) (j : Nat) (μ1 : zM), j + d = 6 → zBeg μ i n k j μ1 → zU Γ b_M_begin n_M 4 none [] (zRm 0 0 0) 0 0 (zFin Γ 0 false (zRv (fun μ' => zBeg μ i n k 6 μ'))) false 0 μ1 32 [some (zp (3 + 3 * i)), some (zi n), some (zi k), some (zi (j : Int))] [] := by
    intro d
    induction d using Nat.strongRecOn with
    | _ d ih32 =>
      intro j μ1 hd hb
      refine zU_iload_n d_M_begin_32 rfl ?_
      refine zU_bipush d_M_begin_33 (by decide) ?_
      refine zU_icmp_ge 51 d_M_begin_35 (by decide) (by omega) (by omega) (fun h35 => ?_) (fun h35 => ?_)
      · exact zU_return d_M_begin_51 rfl (by decide) (by decide) (⟨rfl, by have hj : j = 6 := (by omega); subst hj; exact hb⟩)
      · refine zU_aload_n d_M_begin_38 rfl ?_
        refine zU_getR (4 + 3 * i) d_M_begin_39 f_M_9 (zMl h_i) (zMk h_i) rfl (zMr1 h_i) ?_
        refine zU_iload_n d_M_begin_42 rfl ?_
        refine zU_iconst d_M_begin_43 ?_
        refine zU_iast d_M_begin_44 (zMl1 h_i) (zMk1 h_i) (by decide) (by omega) ?_
        refine zU.eqM (μ' := zup μ1 (4 + 3 * i) j 0) rfl ?_
        refine zU_iinc d_M_begin_45 rfl ?_
        refine zU.eqL (L' := [some (zp (3 + 3 * i)), some (zi n), some (zi k), some (zi (((j + 1 : Nat) : Int)))]) (by first | rfl | (show _ = _; simp only [List.set]; congr 3; omega)) ?_
        refine zU_goto 32 d_M_begin_48 (by decide) ?_
        exact ih32 (d - 1) (by omega) (j + 1) _ (by omega) (zBeg_step hb)
  exact hJ32 6 0 _ (by omega) (by
    have hne : ¬ (4 + 3 * i = 3 + 3 * i) := by omega
    refine ⟨?_, ?_, ?_, ?_, ?_, ?_, fun s h => absurd h (by omega), fun q h1 h2 => ?_⟩
    · simp [zup_at]
    · simp [zup_at]
    · simp [zup_at]
    · simp [zup_at]
    · simp [zup_at]
    · simp [zup_at]
    · funext j; simp [zup_at, h1])
set_option maxRecDepth 100000 in
set_option maxHeartbeats 4000000 in
theorem m_A_add (l : Launch) (μ : zM) {a : aT} (ha : aOk a) (hc : cRep a μ) {n : Nat} {p : Bool} (hN4' : aN a < 4) (hn : 1 ≤ n ∧ n ≤ 6) :
    zC l y_A_add b_A_add 3 (some .int) [] 1 0 23 false [zp 1, zi (n : Int), zi (zB (!p))] μ (zRi (fun r μ' => r = aN a ∧ cRep (aAdd a n p) μ' ∧ ∀ q, q ≠ 1 → q ≠ 3 + 3 * aN a → q ≠ 4 + 3 * aN a → μ' q = μ q)) := by
  refine zC.of (own := n_A) (L := [some (zp 1), some (zi (n : Int)), some (zi (zB (!p)))]) (by decide) rfl (by simp [zcat]) (Nat.le_of_ble_eq_true rfl) rfl (fun Γ => ?_)
  obtain ⟨hN, hD, hCt, hA⟩ := id hc
  have hN4 := ha.1
  obtain ⟨w, hw⟩ : ∃ w, w = aN a := ⟨_, rfl⟩
  have h_w : w < 4 := by omega
  refine zU_aload_n d_A_add_0 rfl ?_
  refine zU_getR 2 d_A_add_1 f_A_11 (by decide) rfl rfl rfl ?_
  refine zU_aload_n d_A_add_4 rfl ?_
  refine zU_getI (v := (w : Int)) d_A_add_5 f_A_18 (by decide) rfl rfl (hN.trans (by rw [hw])) ?_
  refine zU_aald (3 + 3 * w) d_A_add_8 (by decide) rfl (by decide) (by omega) (zRn h_w) ?_
  refine zU_iload_n d_A_add_9 rfl ?_
  refine zU_iload_n d_A_add_10 rfl ?_
  refine zU_callVv (p0 := (3 + 3 * w)) [zi (n : Int), zi (zB (!p))] d_A_add_11 k_A_22 rfl (zMl h_w) (zMk h_w) rfl (by decide) (Nat.le_of_ble_eq_true rfl) (fun l => m_M_begin l μ h_w) (fun μ11 h11 => ?_)
  have hbN : μ11 1 1 = (w : Int) := by rw [h11.2.2.2.2.2.2.2 1 (by omega) (by omega), hN, hw]
  refine zU_aload_n d_A_add_14 rfl ?_
  refine zU_dup d_A_add_15 rfl ?_
  refine zU_getI (v := (w : Int)) d_A_add_16 f_A_18 (by decide) rfl rfl (hbN) ?_
  refine zU_iconst d_A_add_19 ?_
  refine zU_iadd d_A_add_20 ?_
  refine zU_putI d_A_add_21 f_A_18 p_A_count (by decide) rfl rfl (Or.inl rfl) ?_
  refine zU_aload_n d_A_add_24 rfl ?_
  refine zU_getI (v := (w : Int) + 1) d_A_add_25 f_A_18 (by decide) rfl rfl (by simp [zup_at]) ?_
  refine zU_iconst d_A_add_28 ?_
  refine zU_isub d_A_add_29 ?_
  exact zU_ireturn d_A_add_30 (Or.inl rfl) (by decide) (by decide) (⟨_, rfl, by omega, by rw [hw] at h11 ⊢; exact cRep_add ha hc hN4' h11, fun q h1 h2 h3 => by rw [zup_ne _ _ _ h1]; exact h11.2.2.2.2.2.2.2 q (by rw [hw]; exact h2) (by rw [hw]; exact h3)⟩)
