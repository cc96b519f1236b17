def oFin (tg : Nat → Nat → Nat) (K : Nat → Bool) (M : Nat) : Prop := (oAt tg K (12 * M)).length = M ∧ ∀ k, k < M → k < (oAt tg K (12 * k)).length
theorem oFin_unique {tg : Nat → Nat → Nat} {K : Nat → Bool} {N N' : Nat} (h : oFin tg K N) (h' : oFin tg K N') : N = N' := by
  rcases Nat.lt_trichotomy N N' with h1 | h1 | h1
  · have := h'.2 N h1
    rw [h.1] at this
    omega
  · exact h1
  · have := h.2 N' h1
    rw [h'.1] at this
    omega
/-! what a synthesis finds -/
abbrev sg (a : aT) (mem : Nat → Bool) (N : Nat) : gT := gAt (nxtA a mem) (cod (aFirst a mem)) (12 * N)
def sU (a : aT) (g : gT) (k e : Nat) : Bool := aMay a (g.1.getD k 0) e
def sG (a : aT) (mem : Nat → Bool) (g : gT) (k : Nat) : Bool := aGoal a mem (g.1.getD k 0)
def sB (a : aT) (mem : Nat → Bool) (g : gT) (k : Nat) : Bool := !aBad a mem (g.1.getD k 0)
def sC (a : aT) (e : Nat) : Bool := aD a e && aC a e
def sMath (a : aT) (mem : Nat → Bool) (N : Nat) (K : Nat → Bool) (M : Nat) : Prop := gFin (nxtA a mem) (cod (aFirst a mem)) N ∧ (0 < N ∧ N ≤ 200) ∧ gPost N (gtg (sg a mem N)) (sU a (sg a mem N)) (sC a) (sB a mem (sg a mem N)) (sG a mem (sg a mem N)) K ∧ gAbove N (gtg (sg a mem N)) (sU a (sg a mem N)) (sC a) (sB a mem (sg a mem N)) (sG a mem (sg a mem N)) K ∧ oFin (gtg (sg a mem N)) K M ∧ M ≤ N ∧ (∀ s k : Nat, ((oAt (gtg (sg a mem N)) K (12 * M))[s]? = some k → k < N)) ∧ ∀ c ∈ (sg a mem N).1, aVal a mem c
def sSup (a : aT) (mem : Nat → Bool) (N : Nat) (K : Nat → Bool) (M j : Nat) (μ : zM) : Prop := μ (33 + 6 * j) 0 = (M : Int) ∧ μ (33 + 6 * j) 1 = (N : Int) ∧ μ (33 + 6 * j) 2 = (cnt K N : Int) ∧ sWd (sg a mem N) K (μ (33 + 6 * j) 3) (μ (34 + 6 * j)) ∧ sRw (sg a mem N) (sU a (sg a mem N)) (sG a mem (sg a mem N)) K (oAt (gtg (sg a mem N)) K (12 * M)) M j μ
theorem sRw_congr {g : gT} {U : Nat → Nat → Bool} {G K : Nat → Bool} {O : List Nat} {m j : Nat} {μ μ' : zM} (h : sRw g U G K O m j μ) (hq : ∀ q, 35 + 6 * j ≤ q → q ≤ 38 + 6 * j → μ' q = μ q) : sRw g U G K O m j μ' := by
  unfold sRw
  rw [hq (35 + 6 * j) (by omega) (by omega), hq (36 + 6 * j) (by omega) (by omega), hq (37 + 6 * j) (by omega) (by omega), hq (38 + 6 * j) (by omega) (by omega)]
  exact h
theorem sSup_congr {a : aT} {mem : Nat → Bool} {N : Nat} {K : Nat → Bool} {M j : Nat} {μ μ' : zM} (h : sSup a mem N K M j μ) (hq : ∀ q, 33 + 6 * j ≤ q → q ≤ 38 + 6 * j → μ' q = μ q) : sSup a mem N K M j μ' := by
  obtain ⟨h1, h2, h3, h4, h5⟩ := h
  refine ⟨?_, ?_, ?_, ?_, sRw_congr h5 (fun q h1 h2 => hq q (by omega) (by omega))⟩
  · rw [hq (33 + 6 * j) (by omega) (by omega)]; exact h1
  · rw [hq (33 + 6 * j) (by omega) (by omega)]; exact h2
  · rw [hq (33 + 6 * j) (by omega) (by omega)]; exact h3
  · rw [hq (33 + 6 * j) (by omega) (by omega), hq (34 + 6 * j) (by omega) (by omega)]; exact h4
theorem gMk_at {a : aT} {mem : Nat → Bool} {g : gT} {μ : zM} {N : Nat} (h : gMk a mem g.1 N μ) (hl : g.1.length = N) {k : Nat} (hk : k < N) : μ 18 (k + 1) = zB (sG a mem g k) ∧ μ 19 (k + 1) = zB (sB a mem g k) ∧ zmask 12 (μ 27 (k + 1)) (sU a g k) := by
  have hk' : k < g.1.length := by omega
  have h1 := h k _ hk (List.getElem?_eq_getElem hk')
  have h2 : g.1.getD k 0 = g.1[k] := by simp [hk']
  unfold sG sB
  rw [h2]
  refine ⟨h1.1, h1.2.1, ?_⟩
  have h3 := h1.2.2
  unfold zmask at h3 ⊢
  unfold sU
  rw [h2]
  exact h3
theorem cnt_all {f : Nat → Bool} : ∀ n, (∀ k, k < n → f k = true) → cnt f n = n
  | 0, _ => rfl
  | n + 1, h => by
    unfold cnt
    rw [cnt_all n (fun k hk => h k (by omega)), if_pos (h n (by omega))]
set_option maxRecDepth 100000 in
set_option maxHeartbeats 4000000 in
theorem m_Y_writeStates (l : Launch) (μ : zM) {g : gT} {U : Nat → Nat → Bool} {G K : Nat → Bool} (hG : gRep g μ) (hK : ∀ k, k < g.1.length → μ 19 (k + 1) = zB (K k)) (hU : ∀ k, k < g.1.length → zmask 12 (μ 27 (k + 1)) (U k)) (hD : ∀ k, k < g.1.length → mDist (gtg g) K G k (μ 20 (k + 1))) {j : Nat} (h_j : j < 3) (hn1 : 0 < g.1.length) :
    zC l y_Y_writeStates b_Y_writeStates 3 none [] 2 0 48 false [zp 26, zp (33 + 6 * j)] μ (zRv (fun μ' => ∃ M, oFin (gtg g) K M ∧ M ≤ g.1.length ∧ (∀ s k : Nat, (oAt (gtg g) K (12 * M))[s]? = some k → k < g.1.length) ∧ μ' (33 + 6 * j) 0 = (M : Int) ∧ sRw g U G K (oAt (gtg g) K (12 * M)) M j μ' ∧ (∀ q, q ≠ 28 → q ≠ 29 → (q < 33 + 6 * j ∨ 39 + 6 * j ≤ q ∨ q = 34 + 6 * j) → μ' q = μ q) ∧ (∀ i, i ≠ 0 → μ' (33 + 6 * j) i = μ (33 + 6 * j) i))) := by
  refine zC.of (own := n_Y) (L := [some (zp 26), some (zp (33 + 6 * j)), none]) (by decide) rfl (by simp [zcat]) (Nat.le_of_ble_eq_true rfl) rfl (fun Γ => ?_)
  have hn := hG.1.2.1
  refine zU_aload_n d_Y_writeStates_0 rfl ?_
  refine zU_iconst d_Y_writeStates_1 ?_
  refine zU_putI d_Y_writeStates_2 f_Y_138 p_S_count (zSl0 h_j) (zSk0 h_j) rfl (Or.inl rfl) ?_
  have hz0 : ∀ i, i ≠ 0 → zup μ (33 + 6 * j) 0 0 (33 + 6 * j) i = μ (33 + 6 * j) i := fun i hi => by rw [zup_at]; simp [hi]
  refine zU_iconst d_Y_writeStates_5 ?_
  refine zU_istore_n d_Y_writeStates_6 (by decide) ?_
  refine zU.eqL (L' := [some (zp 26), some (zp (33 + 6 * j)), some (zi 1)]) rfl ?_
  have hJ7 : ∀ (d : Nat) (k : Nat) (μ1 : zM), k + d = g.1.length → (∀ i, i < k → μ1 28 (i + 1) = 0) → (∀ q, q ≠ 28 → q ≠ 33 + 6 * j → μ1 q = μ q) → μ1 (33 + 6 * j) 0 = 0 → (∀ i, i ≠ 0 → μ1 (33 + 6 * j) i = μ (33 + 6 * j) i) → zU Γ b_Y_writeStates n_Y 3 none [] (zRm 2 0 48) 0 0 (zFin Γ 0 false (zRv (fun μ' => ∃ M, oFin (gtg g) K M ∧ M ≤ g.1.length ∧ (∀ s k : Nat, (oAt (gtg g) K (12 * M))[s]? = some k → k < g.1.length) ∧ μ' (33 + 6 * j) 0 = (M : Int) ∧ sRw g U G K (oAt (gtg g) K (12 * M)) M j μ' ∧ (∀ q, q ≠ 28 → q ≠ 29 → (q < 33 + 6 * j ∨ 39 + 6 * j ≤ q ∨ q = 34 + 6 * j) → μ' q = μ q) ∧ (∀ i, i ≠ 0 → μ' (33 + 6 * j) i = μ (33 + 6 * j) i)))) false 0 μ1 7 [some (zp 26), some (zp (33 + 6 * j)), some (zi ((k + 1 : Nat) : Int))] [] := by
    intro d
    induction d using Nat.strongRecOn with
    | _ d ih7 =>
      intro k μ1 hd hz hq h0 hi
      refine zU_iload_n d_Y_writeStates_7 rfl ?_
      refine zU_aload_n d_Y_writeStates_8 rfl ?_
      refine zU_getR 15 d_Y_writeStates_9 f_Y_25 (by decide) rfl rfl rfl ?_
      refine zU_getI (v := (g.1.length : Int)) d_Y_writeStates_12 f_Y_36 (by decide) rfl rfl (by rw [hq 15 (by omega) (by omega)]; exact hG.1.1) ?_
      refine zU_icmp_gt 31 d_Y_writeStates_15 (by decide) (by omega) (by omega) (fun h15 => ?_) (fun h15 => ?_)
      · have hO0 : oRep g.1.length [] j μ1 := ⟨h0, fun i hi' _ => hz i (by omega), fun s k hs => by simp at hs, by rw [cnt_all g.1.length (fun i hi' => by rw [hz i (by omega)]; rfl)]; simp⟩
        refine zU_aload_n d_Y_writeStates_31 rfl ?_
        refine zU_getR 15 d_Y_writeStates_32 f_Y_25 (by decide) rfl rfl rfl ?_
        refine zU_getR 19 d_Y_writeStates_35 f_Y_85 (by decide) rfl rfl rfl ?_
        refine zU_iconst d_Y_writeStates_38 ?_
        refine zU_zald (v := zB (K 0)) d_Y_writeStates_39 (by decide) rfl (by decide) (by omega) (by rw [hq 19 (by omega) (by omega)]; exact hK 0 hn1) ?_
        have hJ50 : ∀ (μ2 : zM) (hO2 : oRep g.1.length (oAt (gtg g) K (12 * 0)) j μ2) (hq2 : ∀ q, q ≠ 28 → q ≠ 29 → (q < 33 + 6 * j ∨ 39 + 6 * j ≤ q ∨ q = 34 + 6 * j) → μ2 q = μ q) (hi2 : ∀ i, i ≠ 0 → μ2 (33 + 6 * j) i = μ (33 + 6 * j) i), zU Γ b_Y_writeStates n_Y 3 none [] (zRm 2 0 48) 0 0 (zFin Γ 0 false (zRv (fun μ' => ∃ M, oFin (gtg g) K M ∧ M ≤ g.1.length ∧ (∀ s k : Nat, (oAt (gtg g) K (12 * M))[s]? = some k → k < g.1.length) ∧ μ' (33 + 6 * j) 0 = (M : Int) ∧ sRw g U G K (oAt (gtg g) K (12 * M)) M j μ' ∧ (∀ q, q ≠ 28 → q ≠ 29 → (q < 33 + 6 * j ∨ 39 + 6 * j ≤ q ∨ q = 34 + 6 * j) → μ' q = μ q) ∧ (∀ i, i ≠ 0 → μ' (33 + 6 * j) i = μ (33 + 6 * j) i)))) false 0 μ2 50 [some (zp 26), some (zp (33 + 6 * j)), none] [] := by
          intro μ2 hO2 hq2 hi2
          refine zU_iconst d_Y_writeStates_50 ?_
          refine zU_istore_n d_Y_writeStates_51 (by decide) ?_
          refine zU.eqL (L' := [some (zp 26), some (zp (33 + 6 * j)), some (zi 1)]) rfl ?_
          have hJ52 : ∀ (d : Nat) (s : Nat) (μ3 : zM), s + d = 201 → oRep g.1.length (oAt (gtg g) K (12 * s)) j μ3 → s ≤ (oAt (gtg g) K (12 * s)).length → (∀ i, i < s → i < (oAt (gtg g) K (12 * i)).length) → sRw g U G K (oAt (gtg g) K (12 * s)) s j μ3 → (∀ q, q ≠ 28 → q ≠ 29 → (q < 33 + 6 * j ∨ 39 + 6 * j ≤ q ∨ q = 34 + 6 * j) → μ3 q = μ q) → (∀ i, i ≠ 0 → μ3 (33 + 6 * j) i = μ (33 + 6 * j) i) → zU Γ b_Y_writeStates n_Y 3 none [] (zRm 2 0 48) 0 0 (zFin Γ 0 false (zRv (fun μ' => ∃ M, oFin (gtg g) K M ∧ M ≤ g.1.length ∧ (∀ s k : Nat, (oAt (gtg g) K (12 * M))[s]? = some k → k < g.1.length) ∧ μ' (33 + 6 * j) 0 = (M : Int) ∧ sRw g U G K (oAt (gtg g) K (12 * M)) M j μ' ∧ (∀ q, q ≠ 28 → q ≠ 29 → (q < 33 + 6 * j ∨ 39 + 6 * j ≤ q ∨ q = 34 + 6 * j) → μ' q = μ q) ∧ (∀ i, i ≠ 0 → μ' (33 + 6 * j) i = μ (33 + 6 * j) i)))) false 0 μ3 52 [some (zp 26), some (zp (33 + 6 * j)), some (zi ((s + 1 : Nat) : Int))] [] := by
            intro d
            induction d using Nat.strongRecOn with
            | _ d ih52 =>
              intro s μ3 hd hO3 hsl hss hR3 hq3 hi3
              have hl3 := hO3.2.2.2
              refine zU_iload_n d_Y_writeStates_52 rfl ?_
              refine zU_aload_n d_Y_writeStates_53 rfl ?_
              refine zU_getI (v := ((oAt (gtg g) K (12 * s)).length : Int)) d_Y_writeStates_54 f_Y_138 (zSl0 h_j) (zSk0 h_j) rfl (hO3.1) ?_
              refine zU_icmp_gt 79 d_Y_writeStates_57 (by decide) (by omega) (by omega) (fun h57 => ?_) (fun h57 => ?_)
              · exact zU_return d_Y_writeStates_79 rfl (by decide) (by decide) (⟨rfl, s, ⟨by omega, hss⟩, by omega, fun s' k hk => (hO3.2.2.1 s' k hk).1, by rw [hO3.1]; omega, hR3, hq3, hi3⟩)
              · have hq3' : ∀ q, q < 28 → μ3 q = μ q := fun q h => hq3 q (by omega) (by omega) (by omega)
                have hG3 : gRep g μ3 := gRep_congr hG (fun q h => hq3' q (by omega))
                refine zU_iload_n d_Y_writeStates_60 rfl ?_
                refine zU_sipush d_Y_writeStates_61 (by decide) ?_
                refine zU_icmp_gt 79 d_Y_writeStates_64 (by decide) (by omega) (by omega) (fun h64 => ?_) (fun h64 => ?_)
                · exfalso; omega
                · refine zU_aload_n d_Y_writeStates_67 rfl ?_
                  refine zU_iload_n d_Y_writeStates_68 rfl ?_
                  refine zU_aload_n d_Y_writeStates_69 rfl ?_
                  refine zU_callVv (p0 := 26) [zi ((s + 1 : Nat) : Int), zp (33 + 6 * j)] d_Y_writeStates_70 k_Y_143 rfl (by decide) rfl rfl (by decide) (Nat.le_of_ble_eq_true rfl) (fun l => m_Y_writeState l μ3 (U := U) (G := G) (s := s) hG3 (by rw [hq3' 19 (by omega)]; exact hK) (by rw [hq3' 27 (by omega)]; exact hU) (by rw [hq3' 20 (by omega)]; exact hD) h_j (by omega) hO3 hR3) (fun μ70 h70 => ?_)
                  obtain ⟨hO70, hR70, hq70, hi70⟩ := h70
                  refine zU_iinc d_Y_writeStates_73 rfl ?_
                  refine zU.eqL (L' := [some (zp 26), some (zp (33 + 6 * j)), some (zi (((s + 1 + 1 : Nat) : Int)))]) (by first | rfl | exact congrArg (fun zz : Int => [some (zp 26), some (zp (33 + 6 * j)), some (zi zz)]) (show (((s + 1 : Nat) : Int) + 1 : Int) = ((s + 1 + 1 : Nat) : Int) by omega)) ?_
                  refine zU_goto 52 d_Y_writeStates_76 (by decide) ?_
                  exact ih52 (d - 1) (by omega) (s + 1) μ70 (by omega) hO70 (by have := oAt_len (tg := gtg g) (K := K) (show 12 * s ≤ 12 * (s + 1) by omega); omega) (fun i hi => by by_cases h : i = s; { rw [h]; omega }; { exact hss i (by omega) }) hR70 (fun q q1 q2 q3 => by rw [hq70 q q1 q2 q3]; exact hq3 q q1 q2 q3) (fun i hi => by rw [hi70 i hi]; exact hi3 i hi)
          exact hJ52 201 0 μ2 (by omega) hO2 (by omega) (fun i hi => absurd hi (by omega)) (fun s k hs => absurd hs (by omega)) hq2 hi2
        refine zU_if_eq 50 d_Y_writeStates_40 (by decide) (zBr _) (fun h40 => ?_) (fun h40 => ?_)
        · refine zU.drop 2 (L' := [some (zp 26), some (zp (33 + 6 * j)), none]) rfl ?_
          exact hJ50 μ1 (by unfold oAt; rw [zB_zero.mp h40]; exact hO0) (fun q q1 q2 q3 => hq q q1 (by omega)) hi
        · refine zU_aload_n d_Y_writeStates_43 rfl ?_
          refine zU_iconst d_Y_writeStates_44 ?_
          refine zU_aload_n d_Y_writeStates_45 rfl ?_
          refine zU_callVi (p0 := 26) [zi 1, zp (33 + 6 * j)] d_Y_writeStates_46 k_Y_139 rfl (by decide) rfl rfl (by decide) (Nat.le_of_ble_eq_true rfl) (fun l => m_Y_stateFor l μ1 (O := []) (k := 0) h_j hO0 hn1 hn) (fun r46 μ46 h46 => ?_)
          obtain ⟨s1, hr46, hsn46, hs46, hO46, hq46, hi46⟩ := h46
          refine zU_pop d_Y_writeStates_49 rfl ?_
          refine zU.drop 2 (L' := [some (zp 26), some (zp (33 + 6 * j)), none]) rfl ?_
          exact hJ50 μ46 (by unfold oAt; rw [zB_nz.mp h40]; exact hO46) (fun q q1 q2 q3 => by rw [hq46 q q1 q2 (by omega)]; exact hq q q1 (by omega)) (fun i hi' => by rw [hi46 i hi']; exact hi i hi')
      · refine zU_aload_n d_Y_writeStates_18 rfl ?_
        refine zU_getR 28 d_Y_writeStates_19 f_Y_15 (by decide) rfl rfl rfl ?_
        refine zU_iload_n d_Y_writeStates_22 rfl ?_
        refine zU_iconst d_Y_writeStates_23 ?_
        refine zU_iast d_Y_writeStates_24 (by decide) rfl (by decide) (by omega) ?_
        refine zU.eqM (μ' := zup μ1 28 (k + 1) 0) rfl ?_
        refine zU_iinc d_Y_writeStates_25 rfl ?_
        refine zU.eqL (L' := [some (zp 26), some (zp (33 + 6 * j)), some (zi (((k + 1 + 1 : Nat) : Int)))]) (by first | rfl | exact congrArg (fun zz : Int => [some (zp 26), some (zp (33 + 6 * j)), some (zi zz)]) (show (((k + 1 : Nat) : Int) + 1 : Int) = ((k + 1 + 1 : Nat) : Int) by omega)) ?_
        refine zU_goto 7 d_Y_writeStates_28 (by decide) ?_
        exact ih7 (d - 1) (by omega) (k + 1) _ (by omega) (fun i hi => by rw [zup_at]; by_cases h : i = k; { simp [h] }; { rw [if_neg (by omega)]; exact hz i (by omega) }) (fun q q1 q2 => by rw [zup_ne _ _ _ q1]; exact hq q q1 q2) (by rw [zup_ne _ _ _ (by omega)]; exact h0) (fun i hi' => by rw [zup_ne _ _ _ (by omega)]; exact hi i hi')
  exact hJ7 g.1.length 0 _ (by omega) (fun i hi => absurd hi (by omega)) (fun q q1 q2 => by rw [zup_ne _ _ _ q2]) (by rw [zup_at]; simp) hz0
set_option maxRecDepth 100000 in
set_option maxHeartbeats 4000000 in
theorem m_Y_build (l : Launch) (μ : zM) {a : aT} (ha : aOk a) (hc : cRep a μ) {m : Int} {mem : Nat → Bool} (hm : zmask 4 m mem) (hpm : ∀ i, i < aN a → aP a i = true → mem i = true) {L : List Nat} (hB : gBase L μ) (hI : ∀ i, i < aN a → mem i = true → 0 ≤ aI a i) {j : Nat} (h_j : j < 3) :
    zC l y_Y_build b_Y_build 3 (some .boolean) [] 4 0 95 false [zp 26, zi m, zp (33 + 6 * j)] μ (zRi (fun r μ' => ((r = 1 ∧ ∃ N K M, sMath a mem N K M ∧ sSup a mem N K M j μ') ∨ (r = 0 ∧ gMany (nxtA a mem) (cod (aFirst a mem)) ∧ ∀ q, 33 ≤ q → μ' q = μ q)) ∧ (∃ L', gBase L' μ') ∧ ∀ q, (q < 15 ∨ q = 26 ∨ 30 ≤ q) → (q < 33 + 6 * j ∨ 39 + 6 * j ≤ q) → μ' q = μ q)) := by
  refine zC.of (own := n_Y) (L := [some (zp 26), some (zi m), some (zp (33 + 6 * j))]) (by decide) rfl (by simp [zcat]) (Nat.le_of_ble_eq_true rfl) rfl (fun Γ => ?_)
  refine zU_aload_n d_Y_build_0 rfl ?_
  refine zU_iload_n d_Y_build_1 rfl ?_
  refine zU_callVi (p0 := 26) [zi m] d_Y_build_2 k_Y_29 rfl (by decide) rfl rfl (by decide) (Nat.le_of_ble_eq_true rfl) (fun l => m_Y_explore l μ ha hc hm hpm hB hI) (fun r2 μ2 h2 => ?_)
  obtain ⟨h2, hq2⟩ := h2
  have hr2 : r2 = 0 ∨ r2 = 1 := by rcases h2 with h | h <;> omega
  refine zU_if_ne 10 d_Y_build_5 (by decide) (by omega) (fun h5 => ?_) (fun h5 => ?_)
  · obtain ⟨N, hF, hN, hG2, hMk'⟩ : ∃ N, gFin (nxtA a mem) (cod (aFirst a mem)) N ∧ N ≤ 200 ∧ gRep (sg a mem N) μ2 ∧ gMk a mem (sg a mem N).1 N μ2 := by
      rcases h2 with h | h
      · exact h.2
      · exact absurd h.1 h5
    have hMk := fun k hk => gMk_at hMk' hF.1 (k := k) (by rw [← hF.1]; exact hk)
    have hES : (sg a mem N).2.1.length ≤ 2400 := Nat.le_trans (gAt_es (nxtA a mem) (cod (aFirst a mem)) (12 * N)) (by omega)
    have hlen : 0 < (sg a mem N).1.length := by have := gAt_len (nxt := nxtA a mem) (c0 := cod (aFirst a mem)) (show 0 ≤ 12 * N by omega); simp only [gAt, List.length_cons, List.length_nil] at this; exact this
    refine zU_aload_n d_Y_build_10 rfl ?_
    refine zU_callVv (p0 := 26) [] d_Y_build_11 k_Y_33 rfl (by decide) rfl rfl (by decide) (Nat.le_of_ble_eq_true rfl) (fun l => m_Y_keepGood l μ2 (U := sU a (sg a mem N)) (C := sC a) (B := sB a mem (sg a mem N)) (G := sG a mem (sg a mem N)) hG2 (fun k hk => (hMk k hk).2.1) (fun k hk => (hMk k hk).1) (fun k hk => (hMk k hk).2.2) (by rw [hq2 1 (by omega) (by omega)]; exact hc.2.2.1) hES) (fun μ11 h11 => ?_)
    obtain ⟨K, hk11, hp11, ha11, hD11, hq11⟩ := h11
    rw [hF.1] at hp11 ha11
    have hG11 : gRep (sg a mem N) μ11 := gRep_congr hG2 (fun q h => hq11 q (by omega) (by omega) (by omega))
    refine zU_aload_n d_Y_build_14 rfl ?_
    refine zU_aload_n d_Y_build_15 rfl ?_
    refine zU_getR 15 d_Y_build_16 f_Y_25 (by decide) rfl rfl rfl ?_
    refine zU_getI (v := ((sg a mem N).1.length : Int)) d_Y_build_19 f_Y_36 (by decide) rfl rfl (hG11.1.1) ?_
    refine zU_putI d_Y_build_22 f_Y_42 p_S_reached (zSl0 h_j) (zSk0 h_j) rfl (Or.inl rfl) ?_
    refine zU.eqM (μ' := (zup μ11 (33 + 6 * j) 1 (N : Int))) (by rw [hF.1]) ?_
    refine zU_aload_n d_Y_build_25 rfl ?_
    refine zU_aload_n d_Y_build_26 rfl ?_
    refine zU_getR 15 d_Y_build_27 f_Y_25 (by decide) rfl rfl rfl ?_
    refine zU_callVi (p0 := 15) [] d_Y_build_30 k_Y_47 rfl (by decide) rfl rfl (by decide) (Nat.le_of_ble_eq_true rfl) (fun l => m_G_countKept l (zup μ11 (33 + 6 * j) 1 (N : Int)) (g := sg a mem N) (K := K) (gRep_congr hG11 (fun q h => zup_ne _ _ _ (by omega))) (by rw [zup_ne _ _ _ (by omega)]; exact hk11) (by rw [hF.1]; exact hN)) (fun r30 μ30 h30 => ?_)
    obtain ⟨hμ30, rfl⟩ := h30
    replace hμ30 := hμ30.symm
    subst hμ30
    refine zU_putI d_Y_build_33 f_Y_51 p_S_good (zSl0 h_j) (zSk0 h_j) rfl (Or.inl rfl) ?_
    obtain ⟨μ33, hμ33⟩ : ∃ μ3, μ3 = (zup (zup μ11 (33 + 6 * j) 1 (N : Int)) (33 + 6 * j) 2 ((cnt K N : Nat) : Int)) := ⟨_, rfl⟩
    refine zU.eqM (μ' := μ33) (by rw [hF.1]; exact hμ33.symm) ?_
    have hq33 : ∀ q, q ≠ 33 + 6 * j → μ33 q = μ11 q := fun q q1 => by rw [hμ33, zup_ne _ _ _ q1, zup_ne _ _ _ q1]
    have hG33 : gRep (sg a mem N) μ33 := gRep_congr hG11 (fun q h => hq33 q (by omega))
    refine zU_aload_n d_Y_build_36 rfl ?_
    refine zU_aload_n d_Y_build_37 rfl ?_
    refine zU_callVv (p0 := 26) [zp (33 + 6 * j)] d_Y_build_38 k_Y_54 rfl (by decide) rfl rfl (by decide) (Nat.le_of_ble_eq_true rfl) (fun l => m_Y_writeWord l μ33 (g := sg a mem N) (K := K) hG33 (by rw [hq33 19 (by omega)]; exact hk11) (gAt_fb _ _ _) h_j) (fun μ38 h38 => ?_)
    obtain ⟨hw38, hi38, hq38⟩ := h38
    have hG38 : gRep (sg a mem N) μ38 := gRep_congr hG33 (fun q h => hq38 q (by omega) (by omega))
    have hq38' : ∀ q, q < 33 → μ38 q = μ11 q := fun q h => by rw [hq38 q (by omega) (by omega), hq33 q (by omega)]
    refine zU_aload_n d_Y_build_41 rfl ?_
    refine zU_aload_n d_Y_build_42 rfl ?_
    refine zU_callVv (p0 := 26) [zp (33 + 6 * j)] d_Y_build_43 k_Y_58 rfl (by decide) rfl rfl (by decide) (Nat.le_of_ble_eq_true rfl) (fun l => m_Y_writeStates l μ38 (g := sg a mem N) (K := K) (U := sU a (sg a mem N)) (G := sG a mem (sg a mem N)) hG38 (by rw [hq38' 19 (by omega)]; exact hk11) (by rw [hq38' 27 (by omega), hq11 27 (by omega) (by omega) (by omega)]; exact fun k hk => (hMk k hk).2.2) (by rw [hq38' 20 (by omega)]; exact hD11) h_j hlen) (fun μ43 h43 => ?_)
    obtain ⟨M, hM1, hM2, hM3, hM4, hM5, hq43, hi43⟩ := h43
    rw [hF.1] at hM2 hM3
    refine zU_iconst d_Y_build_46 ?_
    exact zU_ireturn d_Y_build_47 (Or.inr ⟨rfl, by omega⟩) (by decide) (by decide) (⟨_, rfl, Or.inl ⟨rfl, N, K, M, ⟨hF, ⟨by rw [← hF.1]; exact hlen, hN⟩, hp11, ha11, hM1, hM2, hM3, gAt_val ha (aVal_first ha hI) _⟩, hM4, by rw [hi43 1 (by decide), hi38 1 (by decide), hμ33, zup_at, if_neg (by omega), zup_at]; simp, by rw [hi43 2 (by decide), hi38 2 (by decide), hμ33, zup_at]; simp, by rw [hi43 3 (by decide), hq43 (34 + 6 * j) (by omega) (by omega) (by omega)]; exact hw38, hM5⟩, ⟨(sg a mem N).1, (gRep_congr hG38 (fun q h => hq43 q (by omega) (by omega) (by omega))).1⟩, fun q h1 h2 => by rw [hq43 q (by omega) (by omega) (by omega), hq38 q (by omega) (by omega), hq33 q (by omega), hq11 q (by omega) (by omega) (by omega), hq2 q (by omega) (by omega)]⟩)
  · refine zU_iconst d_Y_build_8 ?_
    exact zU_ireturn d_Y_build_9 (Or.inr ⟨rfl, by omega⟩) (by decide) (by decide) (⟨_, rfl, Or.inr ⟨rfl, by rcases h2 with h | h; { exact absurd h5 (by omega) }; { exact h.2.1 }, fun q h => hq2 q (by omega) (by omega)⟩, by rcases h2 with h | h; { exact absurd h5 (by omega) }; { exact h.2.2 }, fun q h1 h2 => hq2 q (by omega) (by omega)⟩)
