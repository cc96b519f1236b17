def gAddP (μ : zM) (n c : Nat) (x : Int) (j : Nat) (μ' : zM) : Prop := μ' 15 0 = ((n + 1 : Nat) : Int) ∧ (∀ j, μ' 16 j = if j = c then ((n + 1 : Nat) : Int) else μ 16 j) ∧ (∀ j, μ' 17 j = if j = n + 1 then (c : Int) else μ 17 j) ∧ (∀ j, μ' 21 j = if j = n + 1 then x else μ 21 j) ∧ (∀ j, μ' 23 j = if j = n + 1 then 0 else μ 23 j) ∧
  (∀ e, e < j → μ' 22 (12 * (n + 1) + e) = 0) ∧ (∀ j, j < 12 * (n + 1) → μ' 22 j = μ 22 j) ∧ ∀ q, q ≠ 15 → q ≠ 16 → q ≠ 17 → q ≠ 21 → q ≠ 22 → q ≠ 23 → μ' q = μ q
theorem gAddP_step {μ μ1 : zM} {n c j : Nat} {x : Int} (h : gAddP μ n c x j μ1) : gAddP μ n c x (j + 1) (zup μ1 22 (12 * (n + 1) + j) 0) := by
  obtain ⟨a1, a2, a3, a4, a5, a6, a7, a8⟩ := h
  refine ⟨by rw [zup_ne _ _ _ (by decide)]; exact a1, fun k => by rw [zup_ne _ _ _ (by decide)]; exact a2 k, fun k => by rw [zup_ne _ _ _ (by decide)]; exact a3 k, fun k => by rw [zup_ne _ _ _ (by decide)]; exact a4 k, fun k => by rw [zup_ne _ _ _ (by decide)]; exact a5 k, fun e he => ?_, fun k hk => ?_, fun q q1 q2 q3 q4 q5 q6 => by rw [zup_ne _ _ _ q5]; exact a8 q q1 q2 q3 q4 q5 q6⟩
  · rw [zup_at]
    by_cases h : e = j
    · simp [h]
    · have : ¬ (12 * (n + 1) + e = 12 * (n + 1) + j) := by omega
      simp only [this, and_false, if_false]
      exact a6 e (by omega)
  · rw [zup_at]
    have : ¬ (k = 12 * (n + 1) + j) := by omega
    simp only [this, and_false, if_false]
    exact a7 k hk
/-- nodes before i have been taken out of the table of numbers -/
def gClr (L : List Nat) (μ : zM) (i : Nat) (μ1 : zM) : Prop := (∀ q, q ≠ 16 → μ1 q = μ q) ∧ ∀ c : Nat, c < 4096 → (c ∉ L ∨ ∃ k, k < i ∧ L[k]? = some c) → μ1 16 c = 0
theorem gClr_step {L : List Nat} {μ μ1 : zM} {i c : Nat} (h : gClr L μ i μ1) (hc : L[i]? = some c) : gClr L μ (i + 1) (zup μ1 16 c 0) := by
  refine ⟨fun q hq => by rw [zup_ne _ _ _ hq]; exact h.1 q hq, fun d hd hdd => ?_⟩
  rw [zup_at]
  by_cases hdc : d = c
  · simp [hdc]
  · simp only [hdc, and_false, if_false]
    refine h.2 d hd (hdd.imp id (fun ⟨k, hk, hkd⟩ => ⟨k, ?_, hkd⟩))
    by_cases hki : k = i
    · subst hki
      rw [hc] at hkd
      cases hkd
      exact absurd rfl hdc
    · omega
theorem gClr_all {L : List Nat} {μ μ1 : zM} (h : gClr L μ L.length μ1) : ∀ d : Nat, d < 4096 → μ1 16 d = 0 := by
  intro d hd
  by_cases hdl : d ∈ L
  · obtain ⟨k, hk⟩ := List.getElem?_of_mem hdl
    exact h.2 d hd (Or.inr ⟨k, (List.getElem?_eq_some_iff.mp hk).1, hk⟩)
  · exact h.2 d hd (Or.inl hdl)
set_option maxRecDepth 100000 in
set_option maxHeartbeats 4000000 in
theorem m_G_add (l : Launch) (μ : zM) {n c : Nat} {x : Int} (hc : c < 4096) (hn : n < 200) (hn0 : μ 15 0 = (n : Int)) :
    zC l y_G_add b_G_add 4 none [] 0 0 0 false [zp 15, zi (c : Int), zi x] μ (zRv (fun μ' => gAdded μ n c x μ')) := by
  refine zC.of (own := n_G) (L := [some (zp 15), some (zi (c : Int)), some (zi x), none]) (by decide) rfl (by simp [zcat]) (Nat.le_of_ble_eq_true rfl) rfl (fun Γ => ?_)
  refine zU_aload_n d_G_add_0 rfl ?_
  refine zU_dup d_G_add_1 rfl ?_
  refine zU_getI (v := (n : Int)) d_G_add_2 f_G_43 (by decide) rfl rfl (hn0) ?_
  refine zU_iconst d_G_add_5 ?_
  refine zU_iadd d_G_add_6 ?_
  refine zU_putI d_G_add_7 f_G_43 p_G_count (by decide) rfl rfl (Or.inl rfl) ?_
  refine zU_aload_n d_G_add_10 rfl ?_
  refine zU_getR 16 d_G_add_11 f_G_9 (by decide) rfl rfl rfl ?_
  refine zU_iload_n d_G_add_14 rfl ?_
  refine zU_aload_n d_G_add_15 rfl ?_
  refine zU_getI (v := (n : Int) + 1) d_G_add_16 f_G_43 (by decide) rfl rfl (by simp [zup_at]) ?_
  refine zU_iast d_G_add_19 (by decide) rfl (by decide) (by omega) ?_
  refine zU_aload_n d_G_add_20 rfl ?_
  refine zU_getR 17 d_G_add_21 f_G_15 (by decide) rfl rfl rfl ?_
  refine zU_aload_n d_G_add_24 rfl ?_
  refine zU_getI (v := (n : Int) + 1) d_G_add_25 f_G_43 (by decide) rfl rfl (by simp [zup_at]) ?_
  refine zU_iload_n d_G_add_28 rfl ?_
  refine zU_iast d_G_add_29 (by decide) rfl (by decide) (by omega) ?_
  refine zU_aload_n d_G_add_30 rfl ?_
  refine zU_getR 21 d_G_add_31 f_G_28 (by decide) rfl rfl rfl ?_
  refine zU_aload_n d_G_add_34 rfl ?_
  refine zU_getI (v := (n : Int) + 1) d_G_add_35 f_G_43 (by decide) rfl rfl (by simp [zup_at]) ?_
  refine zU_iload_n d_G_add_38 rfl ?_
  refine zU_iast d_G_add_39 (by decide) rfl (by decide) (by omega) ?_
  refine zU_aload_n d_G_add_40 rfl ?_
  refine zU_getR 23 d_G_add_41 f_G_34 (by decide) rfl rfl rfl ?_
  refine zU_aload_n d_G_add_44 rfl ?_
  refine zU_getI (v := (n : Int) + 1) d_G_add_45 f_G_43 (by decide) rfl rfl (by simp [zup_at]) ?_
  refine zU_iconst d_G_add_48 ?_
  refine zU_iast d_G_add_49 (by decide) rfl (by decide) (by omega) ?_
  refine zU_iconst d_G_add_50 ?_
  refine zU_istore_n d_G_add_51 (by decide) ?_
  refine zU.eqL (L' := [some (zp 15), some (zi (c : Int)), some (zi x), some (zi 0)]) rfl ?_
  have hJ52 : ∀ (d : Nat) (e : Nat) (μ1 : zM), e + d = 12 → gAddP μ n c x e μ1 → zU Γ b_G_add n_G 4 none [] (zRm 0 0 0) 0 0 (zFin Γ 0 false (zRv (fun μ' => gAdded μ n c x μ'))) false 0 μ1 52 [some (zp 15), some (zi (c : Int)), some (zi x), some (zi (e : Int))] [] := by
    intro d
    induction d using Nat.strongRecOn with
    | _ d ih52 =>
      intro e μ1 hd hb
      refine zU_iload_n d_G_add_52 rfl ?_
      refine zU_bipush d_G_add_53 (by decide) ?_
      refine zU_icmp_ge 79 d_G_add_55 (by decide) (by omega) (by omega) (fun h55 => ?_) (fun h55 => ?_)
      · exact zU_return d_G_add_79 rfl (by decide) (by decide) (⟨rfl, by have he : e = 12 := (by omega); subst he; exact hb⟩)
      · refine zU_aload_n d_G_add_58 rfl ?_
        refine zU_getR 22 d_G_add_59 f_G_31 (by decide) rfl rfl rfl ?_
        refine zU_aload_n d_G_add_62 rfl ?_
        refine zU_getI (v := ((n + 1 : Nat) : Int)) d_G_add_63 f_G_43 (by decide) rfl rfl (hb.1) ?_
        refine zU_bipush d_G_add_66 (by decide) ?_
        refine zU_imul d_G_add_68 ?_
        refine zU_iload_n d_G_add_69 rfl ?_
        refine zU_iadd d_G_add_70 ?_
        refine zU_iconst d_G_add_71 ?_
        refine zU_iast d_G_add_72 (by decide) rfl (by decide) (by omega) ?_
        refine zU.eqM (μ' := zup μ1 22 (12 * (n + 1) + e) 0) (by congr 1; omega) ?_
        refine zU_iinc d_G_add_73 rfl ?_
        refine zU.eqL (L' := [some (zp 15), some (zi (c : Int)), some (zi x), some (zi (((e + 1 : Nat) : Int)))]) (by first | rfl | (show _ = _; simp only [List.set]; congr 3; omega)) ?_
        refine zU_goto 52 d_G_add_76 (by decide) ?_
        exact ih52 (d - 1) (by omega) (e + 1) _ (by omega) (gAddP_step hb)
  exact hJ52 12 0 _ (by omega) (by
    refine ⟨?_, fun j => ?_, fun j => ?_, fun j => ?_, fun j => ?_, fun e he => absurd he (by omega), fun j hj => ?_, fun q q1 q2 q3 q4 q5 q6 => ?_⟩
    · simp [zup_at]
    · simp [zup_at]
    · simp [zup_at]
    · simp [zup_at]
    · simp [zup_at]
    · simp [zup_at]
    · funext j; simp [zup_at, q1, q2, q3, q4, q6])
set_option maxRecDepth 100000 in
set_option maxHeartbeats 4000000 in
theorem m_G_begin (l : Launch) (μ : zM) {L : List Nat} {c : Nat} (hB : gBase L μ) (hc : c < 4096) :
    zC l y_G_begin b_G_begin 3 none [] 1 0 23 false [zp 15, zi (c : Int)] μ (zRv (fun μ' => gRep ([c], [], [0]) μ' ∧ ∀ q, q ≠ 15 → q ≠ 16 → q ≠ 17 → q ≠ 21 → q ≠ 22 → q ≠ 23 → μ' q = μ q)) := by
  refine zC.of (own := n_G) (L := [some (zp 15), some (zi (c : Int)), none]) (by decide) rfl (by simp [zcat]) (Nat.le_of_ble_eq_true rfl) rfl (fun Γ => ?_)
  have hl := hB.2.1
  refine zU_iconst d_G_begin_0 ?_
  refine zU_istore_n d_G_begin_1 (by decide) ?_
  refine zU.eqL (L' := [some (zp 15), some (zi (c : Int)), some (zi 1)]) rfl ?_
  have hJ2 : ∀ (d : Nat) (i : Nat) (μ1 : zM), i + d = L.length → gClr L μ i μ1 → zU Γ b_G_begin n_G 3 none [] (zRm 1 0 23) 0 0 (zFin Γ 0 false (zRv (fun μ' => gRep ([c], [], [0]) μ' ∧ ∀ q, q ≠ 15 → q ≠ 16 → q ≠ 17 → q ≠ 21 → q ≠ 22 → q ≠ 23 → μ' q = μ q))) false 0 μ1 2 [some (zp 15), some (zi (c : Int)), some (zi ((i + 1 : Nat) : Int))] [] := by
    intro d
    induction d using Nat.strongRecOn with
    | _ d ih2 =>
      intro i μ1 hd hb
      refine zU_iload_n d_G_begin_2 rfl ?_
      refine zU_aload_n d_G_begin_3 rfl ?_
      refine zU_getI (v := (L.length : Int)) d_G_begin_4 f_G_43 (by decide) rfl rfl (by rw [hb.1 15 (by decide)]; exact hB.1) ?_
      refine zU_icmp_gt 28 d_G_begin_7 (by decide) (by omega) (by omega) (fun h7 => ?_) (fun h7 => ?_)
      · have hi : i = L.length := by omega
        refine zU_aload_n d_G_begin_28 rfl ?_
        refine zU_iconst d_G_begin_29 ?_
        refine zU_putI d_G_begin_30 f_G_43 p_G_count (by decide) rfl rfl (Or.inl rfl) ?_
        refine zU_aload_n d_G_begin_33 rfl ?_
        refine zU_iload_n d_G_begin_34 rfl ?_
        refine zU_iconst d_G_begin_35 ?_
        refine zU_callVv (p0 := 15) [zi (c : Int), zi 0] d_G_begin_36 k_G_47 rfl (by decide) rfl rfl (by decide) (Nat.le_of_ble_eq_true rfl) (fun l => m_G_add l (zup μ1 15 0 0) (n := 0) (c := c) (x := 0) hc (by decide) (by simp [zup_at])) (fun μ36 h36 => ?_)
        exact zU_return d_G_begin_39 rfl (by decide) (by decide) (⟨rfl, gRep_first (fun d hd => by rw [zup_ne _ _ _ (by decide)]; exact gClr_all (by rw [hi] at hb; exact hb) d hd) hc h36, fun q q1 q2 q3 q4 q5 q6 => by rw [h36.2.2.2.2.2.2.2 q q1 q2 q3 q4 q5 q6, zup_ne _ _ _ q1]; exact hb.1 q q2⟩)
      · obtain ⟨ci, hci⟩ : ∃ ci, L[i]? = some ci := ⟨_, List.getElem?_eq_getElem (by omega)⟩
        have hci4 := (hB.2.2.1 i ci hci).1
        refine zU_aload_n d_G_begin_10 rfl ?_
        refine zU_getR 16 d_G_begin_11 f_G_9 (by decide) rfl rfl rfl ?_
        refine zU_aload_n d_G_begin_14 rfl ?_
        refine zU_getR 17 d_G_begin_15 f_G_15 (by decide) rfl rfl rfl ?_
        refine zU_iload_n d_G_begin_18 rfl ?_
        refine zU_iald (v := (ci : Int)) d_G_begin_19 (by decide) rfl (by decide) (by omega) (by rw [hb.1 17 (by decide)]; exact (hB.2.2.1 i ci hci).2.1) ?_
        refine zU_iconst d_G_begin_20 ?_
        refine zU_iast d_G_begin_21 (by decide) rfl (by decide) (by omega) ?_
        refine zU.eqM (μ' := zup μ1 16 ci 0) rfl ?_
        refine zU_iinc d_G_begin_22 rfl ?_
        refine zU.eqL (L' := [some (zp 15), some (zi (c : Int)), some (zi (((i + 1 + 1 : Nat) : Int)))]) (by first | rfl | (show _ = _; simp only [List.set]; congr 3; omega)) ?_
        refine zU_goto 2 d_G_begin_25 (by decide) ?_
        exact ih2 (d - 1) (by omega) (i + 1) _ (by omega) (gClr_step hb hci)
  refine zU.loose ?_
  exact hJ2 L.length 0 μ (by omega) ⟨fun _ _ => rfl, fun d hd h => h.elim (hB.2.2.2 d hd) (fun ⟨k, hk, _⟩ => absurd hk (by omega))⟩
set_option maxRecDepth 100000 in
set_option maxHeartbeats 4000000 in
theorem m_G_link (l : Launch) (μ : zM) {L : List Nat} {ES : List (Nat × Nat)} {FB : List Nat} {f e c : Nat} (hG : gRep (L, ES, FB) μ) (hf : 1 ≤ f ∧ f ≤ L.length) (he : e < 12) (hc : c < 4096) (hn : ∀ q ∈ ES, q.1 ≠ 12 * f + e) :
    zC l y_G_link b_G_link 6 (some .int) [] 1 0 23 false [zp 15, zi (f : Int), zi (e : Int), zi (c : Int)] μ (zRi (fun r μ' => ((∃ k : Nat, L[k]? = some c ∧ r = ((k + 1 : Nat) : Int) ∧ gRep (L, ES ++ [(12 * f + e, k + 1)], FB) μ') ∨ (c ∉ L ∧ L.length < 200 ∧ r = ((L.length + 1 : Nat) : Int) ∧ gRep (L ++ [c], ES ++ [(12 * f + e, L.length + 1)], FB ++ [12 * f + e]) μ') ∨ (c ∉ L ∧ L.length = 200 ∧ r = 0 ∧ μ' = μ)) ∧ ∀ q, q ≠ 15 → q ≠ 16 → q ≠ 17 → q ≠ 21 → q ≠ 22 → q ≠ 23 → q ≠ 24 → μ' q = μ q)) := by
  refine zC.of (own := n_G) (L := [some (zp 15), some (zi (f : Int)), some (zi (e : Int)), some (zi (c : Int)), none, none]) (by decide) rfl (by simp [zcat]) (Nat.le_of_ble_eq_true rfl) rfl (fun Γ => ?_)
  obtain ⟨hB, hE, hF⟩ := id hG
  have hl := hB.2.1
  simp only at hl
  refine zU_iload_n d_G_link_0 rfl ?_
  refine zU_bipush d_G_link_1 (by decide) ?_
  refine zU_imul d_G_link_3 ?_
  refine zU_iload_n d_G_link_4 rfl ?_
  refine zU_iadd d_G_link_5 ?_
  refine zU_istore d_G_link_6 (by decide) ?_
  refine zU.eqL (L' := [some (zp 15), some (zi (f : Int)), some (zi (e : Int)), some (zi (c : Int)), some (zi (((f : Int) * 12) + (e : Int))), none]) rfl ?_
  have hr14 : -2147483648 ≤ μ 16 c ∧ μ 16 c ≤ 2147483647 := by
    by_cases h : c ∈ L
    · obtain ⟨k, hk⟩ := List.getElem?_of_mem h
      have h1 := (hB.2.2.1 k c hk).2.2
      have h2 := (List.getElem?_eq_some_iff.mp hk).1
      omega
    · rw [hB.2.2.2 c hc h]; omega
  refine zU.eqL (L' := [some (zp 15), some (zi (f : Int)), some (zi (e : Int)), some (zi (c : Int)), some (zi ((12 * f + e : Nat) : Int)), none]) (by rw [show ((f : Int) * 12 + (e : Int)) = ((12 * f + e : Nat) : Int) by omega]) ?_
  refine zU_aload_n d_G_link_8 rfl ?_
  refine zU_getR 16 d_G_link_9 f_G_9 (by decide) rfl rfl rfl ?_
  refine zU_iload_n d_G_link_12 rfl ?_
  refine zU_iald (v := μ 16 c) d_G_link_13 (by decide) rfl (by decide) (by omega) (rfl) ?_
  refine zU_if_ne 36 d_G_link_14 (by decide) (hr14) (fun h14 => ?_) (fun h14 => ?_)
  · have hcL : c ∈ L := Classical.byContradiction (fun h => h14 (hB.2.2.2 c hc h))
    obtain ⟨k, hk⟩ := List.getElem?_of_mem hcL
    have hkl := (List.getElem?_eq_some_iff.mp hk).1
    refine zU_aload_n d_G_link_36 rfl ?_
    refine zU_getR 16 d_G_link_37 f_G_9 (by decide) rfl rfl rfl ?_
    refine zU_iload_n d_G_link_40 rfl ?_
    refine zU_iald (v := ((k + 1 : Nat) : Int)) d_G_link_41 (by decide) rfl (by decide) (by omega) ((hB.2.2.1 k c hk).2.2) ?_
    refine zU_istore d_G_link_42 (by decide) ?_
    refine zU.eqL (L' := [some (zp 15), some (zi (f : Int)), some (zi (e : Int)), some (zi (c : Int)), some (zi ((12 * f + e : Nat) : Int)), some (zi (((k + 1 : Nat) : Int)))]) rfl ?_
    refine zU_aload_n d_G_link_44 rfl ?_
    refine zU_getR 22 d_G_link_45 f_G_31 (by decide) rfl rfl rfl ?_
    refine zU_iload d_G_link_48 rfl ?_
    refine zU_iload d_G_link_50 rfl ?_
    refine zU_iast d_G_link_52 (by decide) rfl (by decide) (by omega) ?_
    refine zU.eqM (μ' := zup μ 22 (12 * f + e) ((k + 1 : Nat) : Int)) rfl ?_
    refine zU_aload_n d_G_link_53 rfl ?_
    refine zU_getR 24 d_G_link_54 f_G_37 (by decide) rfl rfl rfl ?_
    refine zU_iload d_G_link_57 rfl ?_
    refine zU_aload_n d_G_link_59 rfl ?_
    refine zU_getR 23 d_G_link_60 f_G_34 (by decide) rfl rfl rfl ?_
    refine zU_iload d_G_link_63 rfl ?_
    refine zU_iald (v := μ 23 (k + 1)) d_G_link_65 (by decide) rfl (by decide) (by omega) (by rw [zup_ne _ _ _ (by decide)]; rfl) ?_
    refine zU_iast d_G_link_66 (by decide) rfl (by decide) (by omega) ?_
    refine zU.eqM (μ' := zup (zup μ 22 (12 * f + e) ((k + 1 : Nat) : Int)) 24 (12 * f + e) (μ 23 (k + 1))) rfl ?_
    refine zU_aload_n d_G_link_67 rfl ?_
    refine zU_getR 23 d_G_link_68 f_G_34 (by decide) rfl rfl rfl ?_
    refine zU_iload d_G_link_71 rfl ?_
    refine zU_iload d_G_link_73 rfl ?_
    refine zU_iast d_G_link_75 (by decide) rfl (by decide) (by omega) ?_
    refine zU.eqM (μ' := zup (zup (zup μ 22 (12 * f + e) ((k + 1 : Nat) : Int)) 24 (12 * f + e) (μ 23 (k + 1))) 23 (k + 1) ((12 * f + e : Nat) : Int)) rfl ?_
    refine zU_iload d_G_link_76 rfl ?_
    exact zU_ireturn d_G_link_78 (Or.inl rfl) (by decide) (by decide) (⟨_, rfl, Or.inl ⟨k, hk, rfl, gRep_link hG (by omega) (by omega) hn⟩, fun q _ _ _ _ q5 q6 q7 => by rw [zup_ne _ _ _ q6, zup_ne _ _ _ q7, zup_ne _ _ _ q5]⟩)
  · have hcn : c ∉ L := by
      intro h
      obtain ⟨k, hk⟩ := List.getElem?_of_mem h
      have h1 := (hB.2.2.1 k c hk).2.2
      omega
    refine zU_aload_n d_G_link_17 rfl ?_
    refine zU_getI (v := (L.length : Int)) d_G_link_18 f_G_43 (by decide) rfl rfl (hB.1) ?_
    refine zU_sipush d_G_link_21 (by decide) ?_
    refine zU_icmp_ne 29 d_G_link_24 (by decide) (by omega) (by omega) (fun h24 => ?_) (fun h24 => ?_)
    · refine zU_aload_n d_G_link_29 rfl ?_
      refine zU_iload_n d_G_link_30 rfl ?_
      refine zU_iload d_G_link_31 rfl ?_
      refine zU_callVv (p0 := 15) [zi (c : Int), zi ((12 * f + e : Nat) : Int)] d_G_link_33 k_G_47 rfl (by decide) rfl rfl (by decide) (Nat.le_of_ble_eq_true rfl) (fun l => m_G_add l μ (n := L.length) (c := c) (x := ((12 * f + e : Nat) : Int)) hc (by omega) hB.1) (fun μ33 h33 => ?_)
      have hG2 := gRep_add hG hc hcn (by omega) h33
      have hq33 := h33.2.2.2.2.2.2.2
      refine zU_aload_n d_G_link_36 rfl ?_
      refine zU_getR 16 d_G_link_37 f_G_9 (by decide) rfl rfl rfl ?_
      refine zU_iload_n d_G_link_40 rfl ?_
      refine zU_iald (v := ((L.length + 1 : Nat) : Int)) d_G_link_41 (by decide) rfl (by decide) (by omega) ((h33.2.1 c).trans (if_pos rfl)) ?_
      refine zU_istore d_G_link_42 (by decide) ?_
      refine zU.eqL (L' := [some (zp 15), some (zi (f : Int)), some (zi (e : Int)), some (zi (c : Int)), some (zi ((12 * f + e : Nat) : Int)), some (zi (((L.length + 1 : Nat) : Int)))]) rfl ?_
      refine zU_aload_n d_G_link_44 rfl ?_
      refine zU_getR 22 d_G_link_45 f_G_31 (by decide) rfl rfl rfl ?_
      refine zU_iload d_G_link_48 rfl ?_
      refine zU_iload d_G_link_50 rfl ?_
      refine zU_iast d_G_link_52 (by decide) rfl (by decide) (by omega) ?_
      refine zU.eqM (μ' := zup μ33 22 (12 * f + e) ((L.length + 1 : Nat) : Int)) rfl ?_
      refine zU_aload_n d_G_link_53 rfl ?_
      refine zU_getR 24 d_G_link_54 f_G_37 (by decide) rfl rfl rfl ?_
      refine zU_iload d_G_link_57 rfl ?_
      refine zU_aload_n d_G_link_59 rfl ?_
      refine zU_getR 23 d_G_link_60 f_G_34 (by decide) rfl rfl rfl ?_
      refine zU_iload d_G_link_63 rfl ?_
      refine zU_iald (v := μ33 23 (L.length + 1)) d_G_link_65 (by decide) rfl (by decide) (by omega) (by rw [zup_ne _ _ _ (by decide)]; rfl) ?_
      refine zU_iast d_G_link_66 (by decide) rfl (by decide) (by omega) ?_
      refine zU.eqM (μ' := zup (zup μ33 22 (12 * f + e) ((L.length + 1 : Nat) : Int)) 24 (12 * f + e) (μ33 23 (L.length + 1))) rfl ?_
      refine zU_aload_n d_G_link_67 rfl ?_
      refine zU_getR 23 d_G_link_68 f_G_34 (by decide) rfl rfl rfl ?_
      refine zU_iload d_G_link_71 rfl ?_
      refine zU_iload d_G_link_73 rfl ?_
      refine zU_iast d_G_link_75 (by decide) rfl (by decide) (by omega) ?_
      refine zU.eqM (μ' := zup (zup (zup μ33 22 (12 * f + e) ((L.length + 1 : Nat) : Int)) 24 (12 * f + e) (μ33 23 (L.length + 1))) 23 (L.length + 1) ((12 * f + e : Nat) : Int)) rfl ?_
      refine zU_iload d_G_link_76 rfl ?_
      exact zU_ireturn d_G_link_78 (Or.inl rfl) (by decide) (by decide) (⟨_, rfl, Or.inr (Or.inl ⟨hcn, by omega, rfl, gRep_link hG2 (by simp) (by simp; omega) hn⟩), fun q q1 q2 q3 q4 q5 q6 q7 => by rw [zup_ne _ _ _ q6, zup_ne _ _ _ q7, zup_ne _ _ _ q5]; exact hq33 q q1 q2 q3 q4 q5 q6⟩)
    · refine zU_iconst d_G_link_27 ?_
      exact zU_ireturn d_G_link_28 (Or.inl rfl) (by decide) (by decide) (⟨_, rfl, Or.inr (Or.inr ⟨hcn, by omega, rfl, rfl⟩), fun q _ _ _ _ _ _ _ => rfl⟩)
set_option maxRecDepth 100000 in
set_option maxHeartbeats 4000000 in
theorem m_G_keptTarget (l : Launch) (μ : zM) {k e : Nat} (hk : 1 ≤ k ∧ k ≤ 200) (he : e < 12) (ht : 0 ≤ μ 22 (12 * k + e) ∧ μ 22 (12 * k + e) ≤ 200) (hb : ∀ j, j ≤ 200 → 1 ≤ j → μ 19 j = 0 ∨ μ 19 j = 1) :
    zC l y_G_keptTarget b_G_keptTarget 4 (some .int) [] 0 0 0 true [zp 15, zi (k : Int), zi (e : Int)] μ (zRi (fun r μ' => μ' = μ ∧ r = if ¬ μ 22 (12 * k + e) = 0 ∧ μ 19 (μ 22 (12 * k + e)).toNat = 1 then μ 22 (12 * k + e) else 0)) := by
  refine zC.of (own := n_G) (L := [some (zp 15), some (zi (k : Int)), some (zi (e : Int)), none]) (by decide) rfl (by simp [zcat]) (Nat.le_of_ble_eq_true rfl) rfl (fun Γ => ?_)
  refine zU_aload_n d_G_keptTarget_0 rfl ?_
  refine zU_getR 22 d_G_keptTarget_1 f_G_31 (by decide) rfl rfl rfl ?_
  refine zU_iload_n d_G_keptTarget_4 rfl ?_
  refine zU_bipush d_G_keptTarget_5 (by decide) ?_
  refine zU_imul d_G_keptTarget_7 ?_
  refine zU_iload_n d_G_keptTarget_8 rfl ?_
  refine zU_iadd d_G_keptTarget_9 ?_
  refine zU_iald (v := μ 22 (12 * k + e)) d_G_keptTarget_10 (by decide) rfl (by decide) (by omega) (by congr 1; omega) ?_
  refine zU_istore_n d_G_keptTarget_11 (by decide) ?_
  refine zU.eqL (L' := [some (zp 15), some (zi (k : Int)), some (zi (e : Int)), some (zi (μ 22 (12 * k + e)))]) rfl ?_
  refine zU_iload_n d_G_keptTarget_12 rfl ?_
  refine zU_if_eq 29 d_G_keptTarget_13 (by decide) (by omega) (fun h13 => ?_) (fun h13 => ?_)
  · refine zU_iconst d_G_keptTarget_29 ?_
    exact zU_ireturn d_G_keptTarget_30 (Or.inl rfl) (by decide) (by decide) (⟨_, rfl, rfl, by rw [if_neg (fun h => h.1 h13)]⟩)
  · have hb9 := hb (μ 22 (12 * k + e)).toNat (by omega) (by omega)
    refine zU_aload_n d_G_keptTarget_16 rfl ?_
    refine zU_getR 19 d_G_keptTarget_17 f_G_22 (by decide) rfl rfl rfl ?_
    refine zU_iload_n d_G_keptTarget_20 rfl ?_
    refine zU_zald (v := μ 19 ((μ 22 (12 * k + e))).toNat) d_G_keptTarget_21 (by decide) rfl (by decide) (by omega) (rfl) ?_
    refine zU_if_eq 29 d_G_keptTarget_22 (by decide) (by omega) (fun h22 => ?_) (fun h22 => ?_)
    · refine zU_iconst d_G_keptTarget_29 ?_
      exact zU_ireturn d_G_keptTarget_30 (Or.inl rfl) (by decide) (by decide) (⟨_, rfl, rfl, by rw [if_neg (fun h => by omega)]⟩)
    · refine zU_iload_n d_G_keptTarget_25 rfl ?_
      refine zU_goto 30 d_G_keptTarget_26 (by decide) ?_
      exact zU_ireturn d_G_keptTarget_30 (Or.inl rfl) (by decide) (by decide) (⟨_, rfl, rfl, by rw [if_pos ⟨h13, by omega⟩]⟩)
