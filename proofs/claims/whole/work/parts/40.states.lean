/-! the states of a supervisor: kept nodes in the order in which they are found -/
def nxK (tg : Nat → Nat → Nat) (K : Nat → Bool) (k e : Nat) : Option Nat := if ktg tg K k e = 0 then none else some (ktg tg K k e - 1)
def oAt (tg : Nat → Nat → Nat) (K : Nat → Bool) (t : Nat) : List Nat := if K 0 = true then (gAt (nxK tg K) 0 t).1 else []
def oIns (O : List Nat) (k : Nat) : List Nat := if k ∈ O then O else O ++ [k]
theorem oAt_K {tg : Nat → Nat → Nat} {K : Nat → Bool} {t s : Nat} (h : s < (oAt tg K t).length) : K 0 = true := by
  unfold oAt at h
  split at h
  · assumption
  · simp at h
theorem oAt_next {tg : Nat → Nat → Nat} {K : Nat → Bool} {s e k : Nat} (he : e < 12) (hk : (oAt tg K (12 * s + e))[s]? = some k) :
    oAt tg K (12 * s + (e + 1)) = if ktg tg K k e = 0 then oAt tg K (12 * s + e) else oIns (oAt tg K (12 * s + e)) (ktg tg K k e - 1) := by
  have hK := oAt_K (List.getElem?_eq_some_iff.mp hk).1
  unfold oAt at hk ⊢
  simp only [hK, if_true] at hk ⊢
  rw [gAt_next _ _ he]
  by_cases h0 : ktg tg K k e = 0
  · rw [if_pos h0, gStep_none hk (by unfold nxK; rw [if_pos h0])]
  · rw [if_neg h0]
    have hn : nxK tg K k e = some (ktg tg K k e - 1) := by unfold nxK; rw [if_neg h0]
    unfold oIns gStep
    simp only [hk, hn]
    split <;> rfl
theorem oAt_get {tg : Nat → Nat → Nat} {K : Nat → Bool} {t s j c : Nat} (hts : t ≤ s) (h : (oAt tg K t)[j]? = some c) : (oAt tg K s)[j]? = some c := by
  have hK := oAt_K (List.getElem?_eq_some_iff.mp h).1
  unfold oAt at h ⊢
  simp only [hK, if_true] at h ⊢
  exact gAt_get hts h
theorem oAt_len {tg : Nat → Nat → Nat} {K : Nat → Bool} {t s : Nat} (hts : t ≤ s) : (oAt tg K t).length ≤ (oAt tg K s).length := by
  unfold oAt
  split
  · exact gAt_len hts
  · exact Nat.le_refl _
def oRep (n : Nat) (O : List Nat) (j : Nat) (μ : zM) : Prop := μ (33 + 6 * j) 0 = (O.length : Int) ∧ (∀ k, k < n → k ∉ O → μ 28 (k + 1) = 0) ∧ (∀ s k : Nat, O[s]? = some k → k < n ∧ μ 28 (k + 1) = ((s + 1 : Nat) : Int) ∧ μ 29 (s + 1) = ((k + 1 : Nat) : Int)) ∧ O.length + cnt (fun k => decide (μ 28 (k + 1) = 0)) n = n
theorem oRep_congr {n : Nat} {O : List Nat} {j : Nat} {μ μ' : zM} (h : oRep n O j μ) (h0 : μ' (33 + 6 * j) 0 = μ (33 + 6 * j) 0) (h28 : μ' 28 = μ 28) (h29 : μ' 29 = μ 29) : oRep n O j μ' := by
  unfold oRep
  rw [h0, h28, h29]
  exact h
theorem oRep_add {n : Nat} {O : List Nat} {j k : Nat} {μ μ' : zM} (h : oRep n O j μ) (hk : k < n) (hO : k ∉ O) (h0 : μ' (33 + 6 * j) 0 = ((O.length + 1 : Nat) : Int)) (h28 : ∀ x, μ' 28 x = if x = k + 1 then ((O.length + 1 : Nat) : Int) else μ 28 x) (h29 : ∀ x, μ' 29 x = if x = O.length + 1 then ((k + 1 : Nat) : Int) else μ 29 x) : oRep n (O ++ [k]) j μ' := by
  obtain ⟨g1, g2, g3, g4⟩ := h
  refine ⟨by rw [h0]; simp, fun x hx hxn => ?_, fun s x hs => ?_, ?_⟩
  · have h1 : x ∉ O := fun h => hxn (List.mem_append_left _ h)
    have h2 : x ≠ k := fun h => hxn (h ▸ List.mem_append_right _ List.mem_cons_self)
    rw [h28, if_neg (by omega)]
    exact g2 x hx h1
  · by_cases hl : s < O.length
    · rw [List.getElem?_append_left hl] at hs
      have hxk : x ≠ k := fun h => hO (h ▸ List.mem_of_getElem? hs)
      obtain ⟨q1, q2, q3⟩ := g3 s x hs
      exact ⟨q1, by rw [h28, if_neg (by omega)]; exact q2, by rw [h29, if_neg (by omega)]; exact q3⟩
    · have hs1 := (List.getElem?_eq_some_iff.mp hs).1
      simp only [List.length_append, List.length_cons, List.length_nil] at hs1
      have : s = O.length := by omega
      subst this
      simp only [List.getElem?_concat_length, Option.some.injEq] at hs
      subst hs
      exact ⟨hk, by rw [h28, if_pos rfl], by rw [h29, if_pos rfl]⟩
  · have := cnt_drop (f := fun k => decide (μ 28 (k + 1) = 0)) (g := fun k => decide (μ' 28 (k + 1) = 0)) (k0 := k) (by simp [g2 k hk hO]) (by rw [h28, if_pos rfl]; simp; omega) (fun x hx => by rw [h28, if_neg (by omega)]) n hk
    simp only [List.length_append, List.length_cons, List.length_nil]
    omega
theorem oRep_val {n : Nat} {O : List Nat} {j k : Nat} {μ : zM} (h : oRep n O j μ) (hk : k < n) : (∃ s, O[s]? = some k ∧ μ 28 (k + 1) = ((s + 1 : Nat) : Int)) ∨ (k ∉ O ∧ μ 28 (k + 1) = 0) := by
  by_cases hm : k ∈ O
  · obtain ⟨s, hs⟩ := List.getElem?_of_mem hm
    exact Or.inl ⟨s, hs, (h.2.2.1 s k hs).2.1⟩
  · exact Or.inr ⟨hm, h.2.1 k hk hm⟩
theorem oRep_room {n : Nat} {O : List Nat} {j k : Nat} {μ : zM} (h : oRep n O j μ) (hk : k < n) (hm : k ∉ O) : O.length + 1 ≤ n := by
  have h1 := cnt_less (f := fun _ => false) (g := fun k => decide (μ 28 (k + 1) = 0)) n (fun k _ h => by cases h) ⟨k, hk, rfl, by simp [h.2.1 k hk hm]⟩
  have := h.2.2.2
  omega
def sT (g : gT) (K : Nat → Bool) (O : List Nat) (k e : Nat) (v : Int) : Prop := (ktg (gtg g) K k e = 0 ∧ v = 0) ∨ (ktg (gtg g) K k e ≠ 0 ∧ ∃ s, O[s]? = some (ktg (gtg g) K k e - 1) ∧ v = ((s + 1 : Nat) : Int))
theorem sT_grow {g : gT} {K : Nat → Bool} {O O' : List Nat} {k e : Nat} {v : Int} (h : sT g K O k e v) (hO : ∀ (s k : Nat), O[s]? = some k → O'[s]? = some k) : sT g K O' k e v := by
  rcases h with h | ⟨h1, s, h2, h3⟩
  · exact Or.inl h
  · exact Or.inr ⟨h1, s, hO _ _ h2, h3⟩
def sRw (g : gT) (U : Nat → Nat → Bool) (G K : Nat → Bool) (O : List Nat) (m j : Nat) (μ : zM) : Prop := ∀ s k : Nat, s < m → O[s]? = some k → (∃ c : Nat, g.1[k]? = some c ∧ μ (35 + 6 * j) (s + 1) = (c : Int)) ∧ zmask 12 (μ (36 + 6 * j) (s + 1)) (U k) ∧ mDist (gtg g) K G k (μ (37 + 6 * j) (s + 1)) ∧ ∀ e, e < 12 → sT g K O k e (μ (38 + 6 * j) (12 * (s + 1) + e))
theorem oIns_get {O : List Nat} {x s k : Nat} (h : O[s]? = some k) : (oIns O x)[s]? = some k := by
  unfold oIns
  split
  · exact h
  · rw [List.getElem?_append_left (List.getElem?_eq_some_iff.mp h).1]
    exact h
theorem sRw_fin {g : gT} {U : Nat → Nat → Bool} {G K : Nat → Bool} {μ μ' : zM} {j s k c e : Nat} (hR : sRw g U G K (oAt (gtg g) K (12 * s)) s j μ) (hk : (oAt (gtg g) K (12 * s))[s]? = some k) (hc : g.1[k]? = some c)
    (hU : ∀ k, k < g.1.length → zmask 12 (μ 27 (k + 1)) (U k)) (hD : ∀ k, k < g.1.length → mDist (gtg g) K G k (μ 20 (k + 1))) (hkn : k < g.1.length) (he : e = 12)
    (hT : ∀ x, x < e → sT g K (oAt (gtg g) K (12 * s + e)) k x (μ' (38 + 6 * j) (12 * (s + 1) + x))) (hx : ∀ x, x < 12 * (s + 1) → μ' (38 + 6 * j) x = μ (38 + 6 * j) x)
    (h35 : ∀ x, μ' (35 + 6 * j) x = if x = s + 1 then (c : Int) else μ (35 + 6 * j) x) (h36 : ∀ x, μ' (36 + 6 * j) x = if x = s + 1 then μ 27 (k + 1) else μ (36 + 6 * j) x) (h37 : ∀ x, μ' (37 + 6 * j) x = if x = s + 1 then μ 20 (k + 1) else μ (37 + 6 * j) x) :
    sRw g U G K (oAt (gtg g) K (12 * s + e)) (s + 1) j μ' := by
  intro s' k' hs' hk'
  by_cases h : s' = s
  · subst h
    have h2 := oAt_get (show 12 * s' ≤ 12 * s' + e by omega) hk
    rw [h2] at hk'
    simp only [Option.some.injEq] at hk'
    subst hk'
    exact ⟨⟨c, hc, by rw [h35, if_pos rfl]⟩, by rw [h36, if_pos rfl]; exact hU k hkn, by rw [h37, if_pos rfl]; exact hD k hkn, fun x hx' => hT x (by omega)⟩
  · obtain ⟨k2, hk2⟩ : ∃ k2, (oAt (gtg g) K (12 * s))[s']? = some k2 := ⟨_, List.getElem?_eq_getElem (by have := (List.getElem?_eq_some_iff.mp hk).1; omega)⟩
    have h2 := oAt_get (show 12 * s ≤ 12 * s + e by omega) hk2
    rw [h2] at hk'
    simp only [Option.some.injEq] at hk'
    subst hk'
    obtain ⟨g1, g2, g3, g4⟩ := hR s' k2 (by omega) hk2
    refine ⟨?_, by rw [h36, if_neg (by omega)]; exact g2, by rw [h37, if_neg (by omega)]; exact g3, fun x hx' => ?_⟩
    · obtain ⟨c2, q1, q2⟩ := g1
      exact ⟨c2, q1, by rw [h35, if_neg (by omega)]; exact q2⟩
    · rw [hx _ (by omega)]
      exact sT_grow (g4 x hx') (fun _ _ h => oAt_get (by omega) h)
set_option maxRecDepth 100000 in
set_option maxHeartbeats 4000000 in
theorem m_Y_stateFor (l : Launch) (μ : zM) {n : Nat} {O : List Nat} {j k : Nat} (h_j : j < 3) (hO : oRep n O j μ) (hk : k < n) (hn : n ≤ 200) :
    zC l y_Y_stateFor b_Y_stateFor 3 (some .int) [] 0 0 0 false [zp 26, zi ((k + 1 : Nat) : Int), zp (33 + 6 * j)] μ (zRi (fun r μ' => ∃ s : Nat, r = ((s + 1 : Nat) : Int) ∧ s < n ∧ (oIns O k)[s]? = some k ∧ oRep n (oIns O k) j μ' ∧ (∀ q, q ≠ 28 → q ≠ 29 → q ≠ 33 + 6 * j → μ' q = μ q) ∧ ∀ i, i ≠ 0 → μ' (33 + 6 * j) i = μ (33 + 6 * j) i)) := by
  refine zC.of (own := n_Y) (L := [some (zp 26), some (zi ((k + 1 : Nat) : Int)), some (zp (33 + 6 * j))]) (by decide) rfl (by simp [zcat]) (Nat.le_of_ble_eq_true rfl) rfl (fun Γ => ?_)
  have hv := oRep_val hO hk
  have hl := hO.2.2.2
  have hvr : 0 ≤ μ 28 (k + 1) ∧ μ 28 (k + 1) ≤ 201 := by
    rcases hv with ⟨s, h1, h2⟩ | ⟨-, h2⟩
    · have := (List.getElem?_eq_some_iff.mp h1).1
      omega
    · omega
  refine zU_aload_n d_Y_stateFor_0 rfl ?_
  refine zU_getR 28 d_Y_stateFor_1 f_Y_15 (by decide) rfl rfl rfl ?_
  refine zU_iload_n d_Y_stateFor_4 rfl ?_
  refine zU_iald (v := μ 28 (k + 1)) d_Y_stateFor_5 (by decide) rfl (by decide) (by omega) (rfl) ?_
  refine zU_if_ne 39 d_Y_stateFor_6 (by decide) (by omega) (fun h6 => ?_) (fun h6 => ?_)
  · refine zU_aload_n d_Y_stateFor_39 rfl ?_
    refine zU_getR 28 d_Y_stateFor_40 f_Y_15 (by decide) rfl rfl rfl ?_
    refine zU_iload_n d_Y_stateFor_43 rfl ?_
    refine zU_iald (v := μ 28 (k + 1)) d_Y_stateFor_44 (by decide) rfl (by decide) (by omega) (rfl) ?_
    exact zU_ireturn d_Y_stateFor_45 (Or.inl rfl) (by decide) (by decide) (⟨_, rfl, by rcases hv with ⟨s, h1, h2⟩ | ⟨-, h2⟩; { exact ⟨s, h2, by have := (List.getElem?_eq_some_iff.mp h1).1; omega, oIns_get h1, by unfold oIns; rw [if_pos (List.mem_of_getElem? h1)]; exact hO, fun _ _ _ _ => rfl, fun _ _ => rfl⟩ }; { exact absurd h2 h6 }⟩)
  · have hkO : k ∉ O := by
      rcases hv with ⟨s, h1, h2⟩ | ⟨h1, -⟩
      · omega
      · exact h1
    have hroom := oRep_room hO hk hkO
    refine zU_aload_n d_Y_stateFor_9 rfl ?_
    refine zU_dup d_Y_stateFor_10 rfl ?_
    refine zU_getI (v := (O.length : Int)) d_Y_stateFor_11 f_Y_138 (zSl0 h_j) (zSk0 h_j) rfl (hO.1) ?_
    refine zU_iconst d_Y_stateFor_14 ?_
    refine zU_iadd d_Y_stateFor_15 ?_
    refine zU_putI d_Y_stateFor_16 f_Y_138 p_S_count (zSl0 h_j) (zSk0 h_j) rfl (Or.inl rfl) ?_
    refine zU.eqM (μ' := (zup μ (33 + 6 * j) 0 ((O.length + 1 : Nat) : Int))) rfl ?_
    refine zU_aload_n d_Y_stateFor_19 rfl ?_
    refine zU_getR 28 d_Y_stateFor_20 f_Y_15 (by decide) rfl rfl rfl ?_
    refine zU_iload_n d_Y_stateFor_23 rfl ?_
    refine zU_aload_n d_Y_stateFor_24 rfl ?_
    refine zU_getI (v := ((O.length + 1 : Nat) : Int)) d_Y_stateFor_25 f_Y_138 (zSl0 h_j) (zSk0 h_j) rfl (by rw [zup_at]; simp) ?_
    refine zU_iast d_Y_stateFor_28 (by decide) rfl (by decide) (by omega) ?_
    refine zU.eqM (μ' := (zup (zup μ (33 + 6 * j) 0 ((O.length + 1 : Nat) : Int)) 28 (k + 1) ((O.length + 1 : Nat) : Int))) rfl ?_
    refine zU_aload_n d_Y_stateFor_29 rfl ?_
    refine zU_getR 29 d_Y_stateFor_30 f_Y_18 (by decide) rfl rfl rfl ?_
    refine zU_aload_n d_Y_stateFor_33 rfl ?_
    refine zU_getI (v := ((O.length + 1 : Nat) : Int)) d_Y_stateFor_34 f_Y_138 (zSl0 h_j) (zSk0 h_j) rfl (by rw [zup_ne _ _ _ (by omega), zup_at]; simp) ?_
    refine zU_iload_n d_Y_stateFor_37 rfl ?_
    refine zU_iast d_Y_stateFor_38 (by decide) rfl (by decide) (by omega) ?_
    refine zU.eqM (μ' := (zup (zup (zup μ (33 + 6 * j) 0 ((O.length + 1 : Nat) : Int)) 28 (k + 1) ((O.length + 1 : Nat) : Int)) 29 (O.length + 1) ((k + 1 : Nat) : Int))) rfl ?_
    refine zU_aload_n d_Y_stateFor_39 rfl ?_
    refine zU_getR 28 d_Y_stateFor_40 f_Y_15 (by decide) rfl rfl rfl ?_
    refine zU_iload_n d_Y_stateFor_43 rfl ?_
    refine zU_iald (v := ((O.length + 1 : Nat) : Int)) d_Y_stateFor_44 (by decide) rfl (by decide) (by omega) (by rw [zup_ne _ _ _ (by decide), zup_at]; simp) ?_
    exact zU_ireturn d_Y_stateFor_45 (Or.inl rfl) (by decide) (by decide) (⟨_, rfl, O.length, rfl, by omega, by unfold oIns; rw [if_neg hkO]; simp, by unfold oIns; rw [if_neg hkO]; exact oRep_add hO hk hkO (by rw [zup_ne _ _ _ (by omega), zup_ne _ _ _ (by omega), zup_at]; simp) (fun x => by rw [zup_ne _ _ _ (by decide), zup_at]; by_cases h : x = k + 1; { simp [h] }; { simp only [h, and_false, if_false]; rw [zup_ne _ _ _ (by omega)] }) (fun x => by rw [zup_at]; by_cases h : x = O.length + 1; { simp [h] }; { simp only [h, and_false, if_false]; rw [zup_ne _ _ _ (by decide), zup_ne _ _ _ (by omega)] }), fun q q1 q2 q3 => by rw [zup_ne _ _ _ q2, zup_ne _ _ _ q1, zup_ne _ _ _ q3], fun i hi => by rw [zup_ne _ _ _ (by omega), zup_ne _ _ _ (by omega), zup_at]; simp [hi]⟩)
set_option maxRecDepth 100000 in
set_option maxHeartbeats 4000000 in
theorem m_Y_writeState (l : Launch) (μ : zM) {g : gT} {U : Nat → Nat → Bool} {G K : Nat → Bool} (hG : gRep g μ) (hK : ∀ k, k < g.1.length → μ 19 (k + 1) = zB (K k)) (hU : ∀ k, k < g.1.length → zmask 12 (μ 27 (k + 1)) (U k)) (hD : ∀ k, k < g.1.length → mDist (gtg g) K G k (μ 20 (k + 1))) {j s : Nat} (h_j : j < 3) (hs : s < (oAt (gtg g) K (12 * s)).length) (hO : oRep g.1.length (oAt (gtg g) K (12 * s)) j μ) (hR : sRw g U G K (oAt (gtg g) K (12 * s)) s j μ) :
    zC l y_Y_writeState b_Y_writeState 6 none [] 1 0 23 false [zp 26, zi ((s + 1 : Nat) : Int), zp (33 + 6 * j)] μ (zRv (fun μ' => oRep g.1.length (oAt (gtg g) K (12 * (s + 1))) j μ' ∧ sRw g U G K (oAt (gtg g) K (12 * (s + 1))) (s + 1) j μ' ∧ (∀ q, q ≠ 28 → q ≠ 29 → (q < 33 + 6 * j ∨ 39 + 6 * j ≤ q ∨ q = 34 + 6 * j) → μ' q = μ q) ∧ ∀ i, i ≠ 0 → μ' (33 + 6 * j) i = μ (33 + 6 * j) i)) := by
  refine zC.of (own := n_Y) (L := [some (zp 26), some (zi ((s + 1 : Nat) : Int)), some (zp (33 + 6 * j)), none, none, none]) (by decide) rfl (by simp [zcat]) (Nat.le_of_ble_eq_true rfl) rfl (fun Γ => ?_)
  have hn := hG.1.2.1
  obtain ⟨k, hk⟩ : ∃ k, (oAt (gtg g) K (12 * s))[s]? = some k := ⟨_, List.getElem?_eq_getElem hs⟩
  have hks := hO.2.2.1 s k hk
  have hkn := hks.1
  have hsn : s < g.1.length := by have := hO.2.2.2; omega
  obtain ⟨c, hc⟩ : ∃ c, g.1[k]? = some c := ⟨_, List.getElem?_eq_getElem hkn⟩
  have hcb := hG.1.2.2.1 k c hc
  refine zU_aload_n d_Y_writeState_0 rfl ?_
  refine zU_getR 29 d_Y_writeState_1 f_Y_18 (by decide) rfl rfl rfl ?_
  refine zU_iload_n d_Y_writeState_4 rfl ?_
  refine zU_iald (v := ((k + 1 : Nat) : Int)) d_Y_writeState_5 (by decide) rfl (by decide) (by omega) (hks.2.2) ?_
  refine zU_istore_n d_Y_writeState_6 (by decide) ?_
  refine zU.eqL (L' := [some (zp 26), some (zi ((s + 1 : Nat) : Int)), some (zp (33 + 6 * j)), some (zi (((k + 1 : Nat) : Int))), none, none]) rfl ?_
  refine zU_aload_n d_Y_writeState_7 rfl ?_
  refine zU_getR (35 + 6 * j) d_Y_writeState_8 f_Y_147 (zSl0 h_j) (zSk0 h_j) rfl (zSr5 h_j) ?_
  refine zU_iload_n d_Y_writeState_11 rfl ?_
  refine zU_aload_n d_Y_writeState_12 rfl ?_
  refine zU_getR 15 d_Y_writeState_13 f_Y_25 (by decide) rfl rfl rfl ?_
  refine zU_getR 17 d_Y_writeState_16 f_Y_75 (by decide) rfl rfl rfl ?_
  refine zU_iload_n d_Y_writeState_19 rfl ?_
  refine zU_iald (v := (c : Int)) d_Y_writeState_20 (by decide) rfl (by decide) (by omega) (hcb.2.1) ?_
  refine zU_iast d_Y_writeState_21 (zSl2 h_j) (zSk2 h_j) (by decide) (by omega) ?_
  refine zU.eqM (μ' := (zup μ (35 + 6 * j) (s + 1) (c : Int))) rfl ?_
  refine zU_aload_n d_Y_writeState_22 rfl ?_
  refine zU_getR (36 + 6 * j) d_Y_writeState_23 f_Y_148 (zSl0 h_j) (zSk0 h_j) rfl (zSr6 h_j) ?_
  refine zU_iload_n d_Y_writeState_26 rfl ?_
  refine zU_aload_n d_Y_writeState_27 rfl ?_
  refine zU_getR 27 d_Y_writeState_28 f_Y_9 (by decide) rfl rfl rfl ?_
  refine zU_iload_n d_Y_writeState_31 rfl ?_
  refine zU_iald (v := μ 27 (k + 1)) d_Y_writeState_32 (by decide) rfl (by decide) (by omega) (by rw [zup_ne _ _ _ (by omega)]; rfl) ?_
  refine zU_iast d_Y_writeState_33 (zSl3 h_j) (zSk3 h_j) (by decide) (by omega) ?_
  refine zU.eqM (μ' := (zup (zup μ (35 + 6 * j) (s + 1) (c : Int)) (36 + 6 * j) (s + 1) (μ 27 (k + 1)))) rfl ?_
  refine zU_aload_n d_Y_writeState_34 rfl ?_
  refine zU_getR (37 + 6 * j) d_Y_writeState_35 f_Y_149 (zSl0 h_j) (zSk0 h_j) rfl (zSr7 h_j) ?_
  refine zU_iload_n d_Y_writeState_38 rfl ?_
  refine zU_aload_n d_Y_writeState_39 rfl ?_
  refine zU_getR 15 d_Y_writeState_40 f_Y_25 (by decide) rfl rfl rfl ?_
  refine zU_getR 20 d_Y_writeState_43 f_Y_152 (by decide) rfl rfl rfl ?_
  refine zU_iload_n d_Y_writeState_46 rfl ?_
  refine zU_iald (v := μ 20 (k + 1)) d_Y_writeState_47 (by decide) rfl (by decide) (by omega) (by rw [zup_ne _ _ _ (by omega), zup_ne _ _ _ (by omega)]; rfl) ?_
  refine zU_iast d_Y_writeState_48 (zSl4 h_j) (zSk4 h_j) (by decide) (by omega) ?_
  obtain ⟨μ3, hμ3⟩ : ∃ μ3, μ3 = (zup (zup (zup μ (35 + 6 * j) (s + 1) (c : Int)) (36 + 6 * j) (s + 1) (μ 27 (k + 1))) (37 + 6 * j) (s + 1) (μ 20 (k + 1))) := ⟨_, rfl⟩
  refine zU.eqM (μ' := μ3) hμ3.symm ?_
  have hq3 : ∀ q, q ≠ 35 + 6 * j → q ≠ 36 + 6 * j → q ≠ 37 + 6 * j → μ3 q = μ q := fun q q1 q2 q3 => by rw [hμ3, zup_ne _ _ _ q3, zup_ne _ _ _ q2, zup_ne _ _ _ q1]
  have h35 : ∀ x, μ3 (35 + 6 * j) x = if x = s + 1 then (c : Int) else μ (35 + 6 * j) x := fun x => by rw [hμ3, zup_ne _ _ _ (by omega), zup_ne _ _ _ (by omega), zup_at]; simp
  have h36 : ∀ x, μ3 (36 + 6 * j) x = if x = s + 1 then μ 27 (k + 1) else μ (36 + 6 * j) x := fun x => by rw [hμ3, zup_ne _ _ _ (by omega), zup_at]; by_cases h : x = s + 1; { simp [h] }; { simp only [h, and_false, if_false]; rw [zup_ne _ _ _ (by omega)] }
  have h37 : ∀ x, μ3 (37 + 6 * j) x = if x = s + 1 then μ 20 (k + 1) else μ (37 + 6 * j) x := fun x => by rw [hμ3, zup_at]; by_cases h : x = s + 1; { simp [h] }; { simp only [h, and_false, if_false]; rw [zup_ne _ _ _ (by omega), zup_ne _ _ _ (by omega)] }
  have hO3 : oRep g.1.length (oAt (gtg g) K (12 * s + 0)) j μ3 := oRep_congr hO (by rw [hq3 _ (by omega) (by omega) (by omega)]) (hq3 _ (by omega) (by omega) (by omega)) (hq3 _ (by omega) (by omega) (by omega))
  refine zU_iconst d_Y_writeState_49 ?_
  refine zU_istore d_Y_writeState_50 (by decide) ?_
  refine zU.eqL (L' := [some (zp 26), some (zi ((s + 1 : Nat) : Int)), some (zp (33 + 6 * j)), some (zi (((k + 1 : Nat) : Int))), some (zi 0), none]) rfl ?_
  have hJ52 : ∀ (d : Nat) (e : Nat) (μ4 : zM), e + d = 12 → oRep g.1.length (oAt (gtg g) K (12 * s + e)) j μ4 → (∀ x, x < e → sT g K (oAt (gtg g) K (12 * s + e)) k x (μ4 (38 + 6 * j) (12 * (s + 1) + x))) → (∀ x, x < 12 * (s + 1) → μ4 (38 + 6 * j) x = μ (38 + 6 * j) x) → (∀ q, q ≠ 28 → q ≠ 29 → q ≠ 33 + 6 * j → q ≠ 38 + 6 * j → μ4 q = μ3 q) → (∀ i, i ≠ 0 → μ4 (33 + 6 * j) i = μ (33 + 6 * j) i) → zU Γ b_Y_writeState n_Y 6 none [] (zRm 1 0 23) 0 0 (zFin Γ 0 false (zRv (fun μ' => oRep g.1.length (oAt (gtg g) K (12 * (s + 1))) j μ' ∧ sRw g U G K (oAt (gtg g) K (12 * (s + 1))) (s + 1) j μ' ∧ (∀ q, q ≠ 28 → q ≠ 29 → (q < 33 + 6 * j ∨ 39 + 6 * j ≤ q ∨ q = 34 + 6 * j) → μ' q = μ q) ∧ ∀ i, i ≠ 0 → μ' (33 + 6 * j) i = μ (33 + 6 * j) i))) false 0 μ4 52 [some (zp 26), some (zi ((s + 1 : Nat) : Int)), some (zp (33 + 6 * j)), some (zi ((k + 1 : Nat) : Int)), some (zi (e : Int)), none] [] := by
    intro d
    induction d using Nat.strongRecOn with
    | _ d ih52 =>
      intro e μ4 hd hO4 hT4 hx4 hq4 hi4
      refine zU_iload d_Y_writeState_52 rfl ?_
      refine zU_bipush d_Y_writeState_54 (by decide) ?_
      refine zU_icmp_ge 105 d_Y_writeState_56 (by decide) (by omega) (by omega) (fun h56 => ?_) (fun h56 => ?_)
      · exact zU_return d_Y_writeState_105 rfl (by decide) (by decide) (⟨rfl, by have he : 12 * (s + 1) = 12 * s + e := (by omega); rw [he]; exact hO4, by have he : 12 * (s + 1) = 12 * s + e := (by omega); rw [he]; exact sRw_fin hR hk hc hU hD hkn (show e = 12 by omega) hT4 hx4 (by rw [hq4 _ (by omega) (by omega) (by omega) (by omega)]; exact h35) (by rw [hq4 _ (by omega) (by omega) (by omega) (by omega)]; exact h36) (by rw [hq4 _ (by omega) (by omega) (by omega) (by omega)]; exact h37), fun q q1 q2 q3 => by rw [hq4 q q1 q2 (by omega) (by omega), hq3 q (by omega) (by omega) (by omega)], hi4⟩)
      · have he : e < 12 := by omega
        have hk4 := oAt_get (show 12 * s ≤ 12 * s + e by omega) hk
        have hnx := oAt_next he hk4
        have hq4' : ∀ q, q < 28 → μ4 q = μ q := fun q h => by rw [hq4 q (by omega) (by omega) (by omega) (by omega), hq3 q (by omega) (by omega) (by omega)]
        have hG4 : gRep g μ4 := gRep_congr hG (fun q h => hq4' q (by omega))
        have hK4 : ∀ k, k < g.1.length → μ4 19 (k + 1) = zB (K k) := by rw [hq4' 19 (by omega)]; exact hK
        have hkl := ktg_le (K := K) hG hkn he
        refine zU_aload_n d_Y_writeState_59 rfl ?_
        refine zU_getR 15 d_Y_writeState_60 f_Y_25 (by decide) rfl rfl rfl ?_
        refine zU_iload_n d_Y_writeState_63 rfl ?_
        refine zU_iload d_Y_writeState_64 rfl ?_
        refine zU_callVi (p0 := 15) [zi ((k + 1 : Nat) : Int), zi (e : Int)] d_Y_writeState_66 k_Y_123 rfl (by decide) rfl rfl (by decide) (Nat.le_of_ble_eq_true rfl) (fun l => m_G_kt l μ4 hG4 hK4 hkn he) (fun r66 μ66 h66 => ?_)
        obtain ⟨hμ66, rfl⟩ := h66
        replace hμ66 := hμ66.symm
        subst hμ66
        refine zU_istore d_Y_writeState_69 (by decide) ?_
        refine zU.eqL (L' := [some (zp 26), some (zi ((s + 1 : Nat) : Int)), some (zp (33 + 6 * j)), some (zi ((k + 1 : Nat) : Int)), some (zi (e : Int)), some (zi (((ktg (gtg g) K k e : Nat) : Int)))]) rfl ?_
        refine zU_aload_n d_Y_writeState_71 rfl ?_
        refine zU_getR (38 + 6 * j) d_Y_writeState_72 f_Y_153 (zSl0 h_j) (zSk0 h_j) rfl (zSr8 h_j) ?_
        refine zU_iload_n d_Y_writeState_75 rfl ?_
        refine zU_bipush d_Y_writeState_76 (by decide) ?_
        refine zU_imul d_Y_writeState_78 ?_
        refine zU_iload d_Y_writeState_79 rfl ?_
        refine zU_iadd d_Y_writeState_81 ?_
        refine zU_iload d_Y_writeState_82 rfl ?_
        refine zU_if_ne 91 d_Y_writeState_84 (by decide) (by omega) (fun h84 => ?_) (fun h84 => ?_)
        · have hk0 : ¬ ktg (gtg g) K k e = 0 := by omega
          refine zU.eqL (L' := [some (zp 26), some (zi ((s + 1 : Nat) : Int)), some (zp (33 + 6 * j)), some (zi ((k + 1 : Nat) : Int)), some (zi (e : Int)), some (zi ((ktg (gtg g) K k e - 1 + 1 : Nat) : Int))]) (congrArg (fun zz : Int => [some (zp 26), some (zi ((s + 1 : Nat) : Int)), some (zp (33 + 6 * j)), some (zi ((k + 1 : Nat) : Int)), some (zi (e : Int)), some (zi zz)]) (show ((ktg (gtg g) K k e : Nat) : Int) = ((ktg (gtg g) K k e - 1 + 1 : Nat) : Int) by omega)) ?_
          refine zU_aload_n d_Y_writeState_91 rfl ?_
          refine zU_iload d_Y_writeState_92 rfl ?_
          refine zU_aload_n d_Y_writeState_94 rfl ?_
          refine zU_callVi (p0 := 26) [zi ((ktg (gtg g) K k e - 1 + 1 : Nat) : Int), zp (33 + 6 * j)] d_Y_writeState_95 k_Y_139 rfl (by decide) rfl rfl (by decide) (Nat.le_of_ble_eq_true rfl) (fun l => m_Y_stateFor l μ4 (k := ktg (gtg g) K k e - 1) h_j hO4 (by omega) hn) (fun r95 μ95 h95 => ?_)
          obtain ⟨s1, hr95, hsn95, hs95, hO95, hq95, hi95⟩ := h95
          subst hr95
          refine zU_iast d_Y_writeState_98 (zSl5 h_j) (zSk5 h_j) (by decide) (by omega) ?_
          refine zU.eqM (μ' := zup μ95 (38 + 6 * j) (12 * (s + 1) + e) ((s1 + 1 : Nat) : Int)) (by rw [show ((((s + 1 : Nat) : Int) * 12) + (e : Int)).toNat = 12 * (s + 1) + e by omega]) ?_
          refine zU_iinc d_Y_writeState_99 rfl ?_
          refine zU.eqL (L' := [some (zp 26), some (zi ((s + 1 : Nat) : Int)), some (zp (33 + 6 * j)), some (zi ((k + 1 : Nat) : Int)), some (zi (((e + 1 : Nat) : Int))), some (zi ((ktg (gtg g) K k e - 1 + 1 : Nat) : Int))]) (by first | rfl | exact congrArg (fun zz : Int => [some (zp 26), some (zi ((s + 1 : Nat) : Int)), some (zp (33 + 6 * j)), some (zi ((k + 1 : Nat) : Int)), some (zi zz), some (zi ((ktg (gtg g) K k e - 1 + 1 : Nat) : Int))]) (show ((e : Int) + 1 : Int) = ((e + 1 : Nat) : Int) by omega)) ?_
          refine zU_goto 52 d_Y_writeState_102 (by decide) ?_
          refine zU.drop 5 (L' := [some (zp 26), some (zi ((s + 1 : Nat) : Int)), some (zp (33 + 6 * j)), some (zi ((k + 1 : Nat) : Int)), some (zi (((e + 1 : Nat) : Int))), none]) rfl ?_
          exact ih52 (d - 1) (by omega) (e + 1) _ (by omega) (by rw [hnx, if_neg hk0]; exact oRep_congr hO95 (by rw [zup_ne _ _ _ (by omega)]) (zup_ne _ _ _ (by omega)) (zup_ne _ _ _ (by omega))) (fun x hx => by rw [hnx, if_neg hk0]; by_cases h : x = e; { subst h; exact Or.inr ⟨hk0, s1, hs95, by rw [zup_at]; simp⟩ }; { rw [zup_at, if_neg (by omega), hq95 _ (by omega) (by omega) (by omega)]; exact sT_grow (hT4 x (by omega)) (fun _ _ h => oIns_get h) }) (fun x hx => by rw [zup_at, if_neg (by omega), hq95 _ (by omega) (by omega) (by omega)]; exact hx4 x hx) (fun q q1 q2 q3 q4 => by rw [zup_ne _ _ _ q4, hq95 q q1 q2 q3]; exact hq4 q q1 q2 q3 q4) (fun i hi => by rw [zup_ne _ _ _ (by omega), hi95 i hi]; exact hi4 i hi)
        · have hk0 : ktg (gtg g) K k e = 0 := by omega
          refine zU_iconst d_Y_writeState_87 ?_
          refine zU_goto 98 d_Y_writeState_88 (by decide) ?_
          refine zU_iast d_Y_writeState_98 (zSl5 h_j) (zSk5 h_j) (by decide) (by omega) ?_
          refine zU.eqM (μ' := zup μ4 (38 + 6 * j) (12 * (s + 1) + e) 0) (by rw [show ((((s + 1 : Nat) : Int) * 12) + (e : Int)).toNat = 12 * (s + 1) + e by omega]) ?_
          refine zU_iinc d_Y_writeState_99 rfl ?_
          refine zU.eqL (L' := [some (zp 26), some (zi ((s + 1 : Nat) : Int)), some (zp (33 + 6 * j)), some (zi ((k + 1 : Nat) : Int)), some (zi (((e + 1 : Nat) : Int))), some (zi (((ktg (gtg g) K k e : Nat) : Int)))]) (by first | rfl | exact congrArg (fun zz : Int => [some (zp 26), some (zi ((s + 1 : Nat) : Int)), some (zp (33 + 6 * j)), some (zi ((k + 1 : Nat) : Int)), some (zi zz), some (zi (((ktg (gtg g) K k e : Nat) : Int)))]) (show ((e : Int) + 1 : Int) = ((e + 1 : Nat) : Int) by omega)) ?_
          refine zU_goto 52 d_Y_writeState_102 (by decide) ?_
          refine zU.drop 5 (L' := [some (zp 26), some (zi ((s + 1 : Nat) : Int)), some (zp (33 + 6 * j)), some (zi ((k + 1 : Nat) : Int)), some (zi (((e + 1 : Nat) : Int))), none]) rfl ?_
          exact ih52 (d - 1) (by omega) (e + 1) _ (by omega) (by rw [hnx, if_pos hk0]; exact oRep_congr hO4 (by rw [zup_ne _ _ _ (by omega)]) (zup_ne _ _ _ (by omega)) (zup_ne _ _ _ (by omega))) (fun x hx => by rw [hnx, if_pos hk0]; by_cases h : x = e; { subst h; exact Or.inl ⟨hk0, by rw [zup_at]; simp⟩ }; { rw [zup_at, if_neg (by omega)]; exact hT4 x (by omega) }) (fun x hx => by rw [zup_at, if_neg (by omega)]; exact hx4 x hx) (fun q q1 q2 q3 q4 => by rw [zup_ne _ _ _ q4]; exact hq4 q q1 q2 q3 q4) (fun i hi => by rw [zup_ne _ _ _ (by omega)]; exact hi4 i hi)
  exact hJ52 12 0 μ3 (by omega) hO3 (fun x hx => absurd hx (by omega)) (fun x _ => by rw [hq3 _ (by omega) (by omega) (by omega)]) (fun _ _ _ _ _ => rfl) (fun i _ => by rw [hq3 _ (by omega) (by omega) (by omega)])
