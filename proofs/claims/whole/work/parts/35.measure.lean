theorem chn_len (ES : List (Nat × Nat)) (t : Nat) : (chn ES t).length ≤ ES.length := by
  simp only [chn, List.length_reverse, List.length_map]
  exact List.length_filter_le _ _
/-- what measureInto is at: l is left of the chain of the edges into u -/
def mIn (g : gT) (K G : Nat → Bool) (μ : zM) (w u : Nat) (x : Int) (l : List Nat) (w1 : Nat) (μ1 : zM) : Prop :=
  gCh μ x l ∧ (∀ y ∈ l, (y, u + 1) ∈ g.2.1) ∧ (∀ y, (y, u + 1) ∈ g.2.1 → y ∈ l ∨ ∀ p e, y = 12 * (p + 1) + e → e < 12 → K p = true → 0 ≤ μ1 20 (p + 1)) ∧ mP g K G μ1 w1 ∧ mExt g.1.length μ μ1 w w1 ∧
  ∀ k, k < g.1.length → 0 ≤ μ1 20 (k + 1) → μ1 20 (k + 1) ≤ μ 20 (u + 1) + 1
theorem mIn_skip {g : gT} {K G : Nat → Bool} {μ μ1 : zM} {w u w1 y : Nat} {l : List Nat} {x : Int} (h : mIn g K G μ w u x (y :: l) w1 μ1) (hs : ∀ p e, y = 12 * (p + 1) + e → e < 12 → K p = true → 0 ≤ μ1 20 (p + 1)) : mIn g K G μ w u (μ 24 y) l w1 μ1 := by
  obtain ⟨h1, h2, h3, h4, h5, h6⟩ := h
  refine ⟨h1.2, fun z hz => h2 z (List.mem_cons_of_mem _ hz), fun z hz => ?_, h4, h5, h6⟩
  rcases h3 z hz with h | h
  · rcases List.mem_cons.mp h with rfl | h
    · exact Or.inr hs
    · exact Or.inl h
  · exact Or.inr h
theorem mIn_label {g : gT} {K G : Nat → Bool} {μ μ1 : zM} {w u w1 p e d : Nat} {l : List Nat} {x : Int} (hG : gRep g μ) (h : mIn g K G μ w u x ((12 * (p + 1) + e) :: l) w1 μ1) (he : e < 12) (hu : u < g.1.length) (hd : μ 20 (u + 1) = (d : Int)) (hD : μ1 20 (p + 1) = -1) (hK : K p = true) :
    mIn g K G μ w u (μ 24 (12 * (p + 1) + e)) l (w1 + 1) (zup (zup μ1 20 (p + 1) ((d : Int) + 1)) 25 w1 ((p + 1 : Nat) : Int)) := by
  obtain ⟨h1, h2, h3, h4, h5, h6⟩ := h
  have hm := h2 _ List.mem_cons_self
  have hb := (hG.2.1.1 _ hm).1
  simp only at hb
  have hp : p < g.1.length := by omega
  have hd1 : μ1 20 (u + 1) = (d : Int) := by rw [h5.1 u hu (by omega)]; exact hd
  have m20 : ∀ j, zup (zup μ1 20 (p + 1) ((d : Int) + 1)) 25 w1 ((p + 1 : Nat) : Int) 20 j = if j = p + 1 then (d : Int) + 1 else μ1 20 j := by
    intro j
    rw [zup_ne _ _ _ (by decide), zup_at]
    simp
  refine ⟨h1.2, fun z hz => h2 z (List.mem_cons_of_mem _ hz), fun z hz => ?_, mP_label h4 hp hu hD hK he (gTo_mem hG hm) hd1 (fun k hk hk0 => by rw [← hd]; exact h6 k hk hk0), mExt_label h5 hD, fun k hk hk0 => ?_⟩
  · have keep : ∀ q, 0 ≤ μ1 20 (q + 1) → 0 ≤ zup (zup μ1 20 (p + 1) ((d : Int) + 1)) 25 w1 ((p + 1 : Nat) : Int) 20 (q + 1) := by
      intro q hq
      rw [m20]
      split <;> omega
    rcases h3 z hz with h | h
    · rcases List.mem_cons.mp h with rfl | h
      · refine Or.inr (fun q e' hq he' _ => ?_)
        have : q = p := by omega
        subst this
        rw [m20, if_pos rfl]
        omega
      · exact Or.inl h
    · exact Or.inr (fun q e' hq he' hKq => keep q (h q e' hq he' hKq))
  · rw [m20] at hk0 ⊢
    by_cases hkp : k + 1 = p + 1
    · rw [if_pos hkp]
      omega
    · rw [if_neg hkp] at hk0 ⊢
      exact h6 k hk hk0
theorem gCh_r {g : gT} {μ : zM} {u : Nat} {x : Int} {l : List Nat} (hG : gRep g μ) (hm : ∀ y ∈ l, (y, u + 1) ∈ g.2.1) (h : gCh μ x l) : 0 ≤ x ∧ x ≤ 2412 := by
  have hn := hG.1.2.1
  cases l with
  | nil =>
    have : x = 0 := h
    omega
  | cons y l =>
    have hxy := h.1
    have := (hG.2.1.1 _ (hm y List.mem_cons_self)).1
    simp only at this
    omega
theorem gCh_nil {g : gT} {μ : zM} {u : Nat} {l : List Nat} (hG : gRep g μ) (hm : ∀ y ∈ l, (y, u + 1) ∈ g.2.1) (h : gCh μ 0 l) : l = [] := by
  cases l with
  | nil => rfl
  | cons y l =>
    have hxy := h.1
    have := (hG.2.1.1 _ (hm y List.mem_cons_self)).1
    simp only at this
    omega
set_option maxRecDepth 100000 in
set_option maxHeartbeats 4000000 in
theorem m_G_measureInto (l : Launch) (μ : zM) {g : gT} {K G : Nat → Bool} (hG : gRep g μ) (hK : ∀ k, k < g.1.length → μ 19 (k + 1) = zB (K k)) {w u : Nat} (hn : g.1.length ≤ 200) (hES : g.2.1.length ≤ 2400) (hP : mP g K G μ w) (hu : u < g.1.length) (hu0 : 0 ≤ μ 20 (u + 1)) (hb : ∀ k, k < g.1.length → 0 ≤ μ 20 (k + 1) → μ 20 (k + 1) ≤ μ 20 (u + 1) + 1) :
    zC l y_G_measureInto b_G_measureInto 7 (some .int) [] 0 0 0 false [zp 15, zi ((u + 1 : Nat) : Int), zi (w : Int)] μ (zRi (fun r μ' => ∃ w1 : Nat, r = w1 ∧ mP g K G μ' w1 ∧ mExt g.1.length μ μ' w w1 ∧ (∀ k, k < g.1.length → 0 ≤ μ' 20 (k + 1) → μ' 20 (k + 1) ≤ μ 20 (u + 1) + 1) ∧ ∀ p e, p < g.1.length → K p = true → e < 12 → gTo g (12 * (p + 1) + e) = u + 1 → 0 ≤ μ' 20 (p + 1))) := by
  refine zC.of (own := n_G) (L := [some (zp 15), some (zi ((u + 1 : Nat) : Int)), some (zi (w : Int)), none, none, none, none]) (by decide) rfl (by simp [zcat]) (Nat.le_of_ble_eq_true rfl) rfl (fun Γ => ?_)
  obtain ⟨du, hduw, hdu, _⟩ : ∃ d : Nat, d < w ∧ μ 20 (u + 1) = (d : Int) ∧ _ := (hP.2.2.2.1 u hu).resolve_left (by omega)
  have hw := mP_w hP
  have hcl := chn_len g.2.1 (u + 1)
  have hch0 := hG.2.1.2.2 (u + 1) (by omega) (by omega)
  refine zU_iload_n d_G_measureInto_0 rfl ?_
  refine zU_istore_n d_G_measureInto_1 (by decide) ?_
  refine zU.eqL (L' := [some (zp 15), some (zi ((u + 1 : Nat) : Int)), some (zi (w : Int)), some (zi (w : Int)), none, none, none]) rfl ?_
  refine zU_aload_n d_G_measureInto_2 rfl ?_
  refine zU_getR 23 d_G_measureInto_3 f_G_34 (by decide) rfl rfl rfl ?_
  refine zU_iload_n d_G_measureInto_6 rfl ?_
  refine zU_iald (v := μ 23 (u + 1)) d_G_measureInto_7 (by decide) rfl (by decide) (by omega) (rfl) ?_
  refine zU_istore d_G_measureInto_8 (by decide) ?_
  refine zU.eqL (L' := [some (zp 15), some (zi ((u + 1 : Nat) : Int)), some (zi (w : Int)), some (zi (w : Int)), some (zi (μ 23 (u + 1))), none, none]) rfl ?_
  refine zU_iconst d_G_measureInto_10 ?_
  refine zU_istore d_G_measureInto_11 (by decide) ?_
  refine zU.eqL (L' := [some (zp 15), some (zi ((u + 1 : Nat) : Int)), some (zi (w : Int)), some (zi (w : Int)), some (zi (μ 23 (u + 1))), some (zi 0), none]) rfl ?_
  have hJ13 : ∀ (d : Nat) (i : Nat) (x : Int) (l : List Nat) (w1 : Nat) (μ1 : zM), l.length = d → i + l.length = (chn g.2.1 (u + 1)).length → (0 ≤ x ∧ x ≤ 2412) → mIn g K G μ w u x l w1 μ1 → zU Γ b_G_measureInto n_G 7 (some .int) [] (zRm 0 0 0) 0 0 (zFin Γ 0 false (zRi (fun r μ' => ∃ w1 : Nat, r = w1 ∧ mP g K G μ' w1 ∧ mExt g.1.length μ μ' w w1 ∧ (∀ k, k < g.1.length → 0 ≤ μ' 20 (k + 1) → μ' 20 (k + 1) ≤ μ 20 (u + 1) + 1) ∧ ∀ p e, p < g.1.length → K p = true → e < 12 → gTo g (12 * (p + 1) + e) = u + 1 → 0 ≤ μ' 20 (p + 1)))) false 0 μ1 13 [some (zp 15), some (zi ((u + 1 : Nat) : Int)), some (zi (w : Int)), some (zi (w1 : Int)), some (zi x), some (zi (i : Int)), none] [] := by
    intro d
    induction d using Nat.strongRecOn with
    | _ d ih13 =>
      intro i x l w1 μ1 hd hi hx hI
      have hw1 := mP_w hI.2.2.2.1
      refine zU_iload d_G_measureInto_13 rfl ?_
      refine zU_if_eq 95 d_G_measureInto_15 (by decide) (by omega) (fun h15 => ?_) (fun h15 => ?_)
      · refine zU_iload_n d_G_measureInto_95 rfl ?_
        exact zU_ireturn d_G_measureInto_96 (Or.inl rfl) (by decide) (by decide) (⟨_, rfl, w1, rfl, hI.2.2.2.1, hI.2.2.2.2.1, hI.2.2.2.2.2, fun p e hp hKp he hto => by have hl : l = [] := gCh_nil hG hI.2.1 (by rw [h15] at hI; exact hI.1); rcases hI.2.2.1 _ (gTo_mem' hto (by omega)) with h | h; (rw [hl] at h; cases h); exact h p e rfl he hKp⟩)
      · obtain ⟨y, l', rfl⟩ : ∃ y l', l = y :: l' := by
          cases l with
          | nil => exact absurd hI.1 h15
          | cons y l' => exact ⟨y, l', rfl⟩
        have hxy := hI.1.1
        subst hxy
        have hym := hI.2.1 y List.mem_cons_self
        have hyb := (hG.2.1.1 _ hym).1
        simp only at hyb
        obtain ⟨p, hpy⟩ : ∃ p, p + 1 = y / 12 := ⟨y / 12 - 1, by omega⟩
        have hp : p < g.1.length := by omega
        have hye : y = 12 * (p + 1) + y % 12 := by omega
        have hy12 : (y : Int) / 12 = ((p + 1 : Nat) : Int) := by omega
        simp only [List.length_cons] at hi
        refine zU_iload d_G_measureInto_18 rfl ?_
        refine zU_sipush d_G_measureInto_20 (by decide) ?_
        refine zU_icmp_ge 95 d_G_measureInto_23 (by decide) (by omega) (by omega) (fun h23 => ?_) (fun h23 => ?_)
        · exfalso; omega
        · refine zU.eqL (L' := [some (zp 15), some (zi ((u + 1 : Nat) : Int)), some (zi (w : Int)), some (zi (w1 : Int)), some (zi (y : Int)), some (zi (i : Int)), none]) (rfl) ?_
          refine zU_iload d_G_measureInto_26 rfl ?_
          refine zU_bipush d_G_measureInto_28 (by decide) ?_
          refine zU_idiv d_G_measureInto_30 (by omega) (by omega) ?_
          refine zU_istore d_G_measureInto_31 (by decide) ?_
          refine zU.eqL (L' := [some (zp 15), some (zi ((u + 1 : Nat) : Int)), some (zi (w : Int)), some (zi (w1 : Int)), some (zi (y : Int)), some (zi (i : Int)), some (zi ((y : Int) / 12))]) rfl ?_
          refine zU.eqL (L' := [some (zp 15), some (zi ((u + 1 : Nat) : Int)), some (zi (w : Int)), some (zi (w1 : Int)), some (zi (y : Int)), some (zi (i : Int)), some (zi ((p + 1 : Nat) : Int))]) (by rw [hy12]) ?_
          refine zU_aload_n d_G_measureInto_33 rfl ?_
          refine zU_getR 19 d_G_measureInto_34 f_G_22 (by decide) rfl rfl rfl ?_
          refine zU_iload d_G_measureInto_37 rfl ?_
          refine zU_zald (v := zB (K p)) d_G_measureInto_39 (by decide) rfl (by decide) (by omega) (by rw [hI.2.2.2.2.1.2.2.2 19 (by decide) (by decide)]; exact (congrArg (μ 19) (by omega)).trans (hK p hp)) ?_
          refine zU_if_eq 80 d_G_measureInto_40 (by decide) (zBr _) (fun h40 => ?_) (fun h40 => ?_)
          · refine zU_aload_n d_G_measureInto_80 rfl ?_
            refine zU_getR 24 d_G_measureInto_81 f_G_37 (by decide) rfl rfl rfl ?_
            refine zU_iload d_G_measureInto_84 rfl ?_
            refine zU_iald (v := μ 24 y) d_G_measureInto_86 (by decide) rfl (by decide) (by omega) (by rw [hI.2.2.2.2.1.2.2.2 24 (by decide) (by decide)]; rfl) ?_
            refine zU_istore d_G_measureInto_87 (by decide) ?_
            refine zU.eqL (L' := [some (zp 15), some (zi ((u + 1 : Nat) : Int)), some (zi (w : Int)), some (zi (w1 : Int)), some (zi (μ 24 y)), some (zi (i : Int)), some (zi ((p + 1 : Nat) : Int))]) rfl ?_
            refine zU_iinc d_G_measureInto_89 rfl ?_
            refine zU.eqL (L' := [some (zp 15), some (zi ((u + 1 : Nat) : Int)), some (zi (w : Int)), some (zi (w1 : Int)), some (zi (μ 24 y)), some (zi (((i + 1 : Nat) : Int))), some (zi ((p + 1 : Nat) : Int))]) (by first | rfl | (show _ = _; simp only [List.set]; congr 3; omega)) ?_
            refine zU_goto 13 d_G_measureInto_92 (by decide) ?_
            refine zU.drop 6 (L' := [some (zp 15), some (zi ((u + 1 : Nat) : Int)), some (zi (w : Int)), some (zi (w1 : Int)), some (zi (μ 24 y)), some (zi (((i + 1 : Nat) : Int))), none]) rfl ?_
            exact ih13 _ (by simp only [List.length_cons] at hd; omega) (i + 1) (μ 24 y) l' w1 μ1 rfl (by omega) (gCh_r hG (fun z hz => hI.2.1 z (List.mem_cons_of_mem _ hz)) hI.1.2) (mIn_skip hI (fun p' e' h1 h2 h3 => by have : p' = p := (by omega); subst this; rw [zB_zero.mp h40] at h3; cases h3))
          · have hd51 : μ1 20 (p + 1) = -1 ∨ 0 ≤ μ1 20 (p + 1) ∧ μ1 20 (p + 1) ≤ 200 := by
              rcases hI.2.2.2.1.2.2.2.1 p hp with h | ⟨d9, h9, h8, _⟩
              · exact Or.inl h
              · exact Or.inr (by omega)
            refine zU_aload_n d_G_measureInto_43 rfl ?_
            refine zU_getR 20 d_G_measureInto_44 f_G_25 (by decide) rfl rfl rfl ?_
            refine zU_iload d_G_measureInto_47 rfl ?_
            refine zU_iald (v := μ1 20 (p + 1)) d_G_measureInto_49 (by decide) rfl (by decide) (by omega) (congrArg (μ1 20) (by omega)) ?_
            refine zU_iconst d_G_measureInto_50 ?_
            refine zU_icmp_ne 80 d_G_measureInto_51 (by decide) (by omega) (by omega) (fun h51 => ?_) (fun h51 => ?_)
            · refine zU_aload_n d_G_measureInto_80 rfl ?_
              refine zU_getR 24 d_G_measureInto_81 f_G_37 (by decide) rfl rfl rfl ?_
              refine zU_iload d_G_measureInto_84 rfl ?_
              refine zU_iald (v := μ 24 y) d_G_measureInto_86 (by decide) rfl (by decide) (by omega) (by rw [hI.2.2.2.2.1.2.2.2 24 (by decide) (by decide)]; rfl) ?_
              refine zU_istore d_G_measureInto_87 (by decide) ?_
              refine zU.eqL (L' := [some (zp 15), some (zi ((u + 1 : Nat) : Int)), some (zi (w : Int)), some (zi (w1 : Int)), some (zi (μ 24 y)), some (zi (i : Int)), some (zi ((p + 1 : Nat) : Int))]) rfl ?_
              refine zU_iinc d_G_measureInto_89 rfl ?_
              refine zU.eqL (L' := [some (zp 15), some (zi ((u + 1 : Nat) : Int)), some (zi (w : Int)), some (zi (w1 : Int)), some (zi (μ 24 y)), some (zi (((i + 1 : Nat) : Int))), some (zi ((p + 1 : Nat) : Int))]) (by first | rfl | (show _ = _; simp only [List.set]; congr 3; omega)) ?_
              refine zU_goto 13 d_G_measureInto_92 (by decide) ?_
              refine zU.drop 6 (L' := [some (zp 15), some (zi ((u + 1 : Nat) : Int)), some (zi (w : Int)), some (zi (w1 : Int)), some (zi (μ 24 y)), some (zi (((i + 1 : Nat) : Int))), none]) rfl ?_
              exact ih13 _ (by simp only [List.length_cons] at hd; omega) (i + 1) (μ 24 y) l' w1 μ1 rfl (by omega) (gCh_r hG (fun z hz => hI.2.1 z (List.mem_cons_of_mem _ hz)) hI.1.2) (mIn_skip hI (fun p' e' h1 h2 h3 => by have : p' = p := (by omega); subst this; omega))
            · have h51' : μ1 20 (p + 1) = -1 := h51
              refine zU_aload_n d_G_measureInto_54 rfl ?_
              refine zU_getR 20 d_G_measureInto_55 f_G_25 (by decide) rfl rfl rfl ?_
              refine zU_iload d_G_measureInto_58 rfl ?_
              refine zU_aload_n d_G_measureInto_60 rfl ?_
              refine zU_getR 20 d_G_measureInto_61 f_G_25 (by decide) rfl rfl rfl ?_
              refine zU_iload_n d_G_measureInto_64 rfl ?_
              refine zU_iald (v := (du : Int)) d_G_measureInto_65 (by decide) rfl (by decide) (by omega) ((hI.2.2.2.2.1.1 u hu (by omega)).trans hdu) ?_
              refine zU_iconst d_G_measureInto_66 ?_
              refine zU_iadd d_G_measureInto_67 ?_
              refine zU_iast d_G_measureInto_68 (by decide) rfl (by decide) (by omega) ?_
              refine zU.eqM (μ' := zup μ1 20 (p + 1) ((du : Int) + 1)) rfl ?_
              refine zU_aload_n d_G_measureInto_69 rfl ?_
              refine zU_getR 25 d_G_measureInto_70 f_G_40 (by decide) rfl rfl rfl ?_
              refine zU_iload_n d_G_measureInto_73 rfl ?_
              refine zU_iload d_G_measureInto_74 rfl ?_
              refine zU_iast d_G_measureInto_76 (by decide) rfl (by decide) (by omega) ?_
              refine zU.eqM (μ' := zup (zup μ1 20 (p + 1) ((du : Int) + 1)) 25 w1 ((p + 1 : Nat) : Int)) rfl ?_
              refine zU_iinc d_G_measureInto_77 rfl ?_
              refine zU.eqL (L' := [some (zp 15), some (zi ((u + 1 : Nat) : Int)), some (zi (w : Int)), some (zi (((w1 + 1 : Nat) : Int))), some (zi (y : Int)), some (zi (i : Int)), some (zi ((p + 1 : Nat) : Int))]) (by first | rfl | (show _ = _; simp only [List.set]; congr 3; omega)) ?_
              refine zU_aload_n d_G_measureInto_80 rfl ?_
              refine zU_getR 24 d_G_measureInto_81 f_G_37 (by decide) rfl rfl rfl ?_
              refine zU_iload d_G_measureInto_84 rfl ?_
              refine zU_iald (v := μ 24 y) d_G_measureInto_86 (by decide) rfl (by decide) (by omega) (by rw [zup_ne _ _ _ (by decide), zup_ne _ _ _ (by decide), hI.2.2.2.2.1.2.2.2 24 (by decide) (by decide)]; rfl) ?_
              refine zU_istore d_G_measureInto_87 (by decide) ?_
              refine zU.eqL (L' := [some (zp 15), some (zi ((u + 1 : Nat) : Int)), some (zi (w : Int)), some (zi (((w1 + 1 : Nat) : Int))), some (zi (μ 24 y)), some (zi (i : Int)), some (zi ((p + 1 : Nat) : Int))]) rfl ?_
              refine zU_iinc d_G_measureInto_89 rfl ?_
              refine zU.eqL (L' := [some (zp 15), some (zi ((u + 1 : Nat) : Int)), some (zi (w : Int)), some (zi (((w1 + 1 : Nat) : Int))), some (zi (μ 24 y)), some (zi (((i + 1 : Nat) : Int))), some (zi ((p + 1 : Nat) : Int))]) (by first | rfl | (show _ = _; simp only [List.set]; congr 3; omega)) ?_
              refine zU_goto 13 d_G_measureInto_92 (by decide) ?_
              refine zU.drop 6 (L' := [some (zp 15), some (zi ((u + 1 : Nat) : Int)), some (zi (w : Int)), some (zi (((w1 + 1 : Nat) : Int))), some (zi (μ 24 y)), some (zi (((i + 1 : Nat) : Int))), none]) rfl ?_
              exact ih13 _ (by simp only [List.length_cons] at hd; omega) (i + 1) (μ 24 y) l' (w1 + 1) _ rfl (by omega) (gCh_r hG (fun z hz => hI.2.1 z (List.mem_cons_of_mem _ hz)) hI.1.2) (by rw [hye] at hI ⊢; exact mIn_label hG hI (by omega) hu hdu h51' (zB_nz.mp h40))
  refine zU.loose ?_
  exact hJ13 _ 0 (μ 23 (u + 1)) (chn g.2.1 (u + 1)) w μ rfl (by omega) (gCh_r hG (fun y hy => chn_mem.mp hy) hch0) ⟨hch0, fun y hy => chn_mem.mp hy, fun y hy => Or.inl (chn_mem.mpr hy), hP, mExt_rf _ _ _, hb⟩
