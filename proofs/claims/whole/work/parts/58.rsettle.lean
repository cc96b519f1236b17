set_option maxRecDepth 100000 in
set_option maxHeartbeats 4000000 in
theorem m_R_settle (l : Launch) (μ : zM) {N : Nat} {tg : Nat → Nat → Nat} {U : Nat → Nat → Bool} {C B G K : Nat → Bool} {w : Nat} (hw : w < 3) (hT : rT N tg U C G w μ) (hB : rBd w N K μ) (hA : gAbove N tg U C B G K) :
    zC l y_R_settle b_R_settle 3 none [] 1 0 26 false [zp 51, zi (w : Int)] μ (zRv (fun μ' => ∃ K', rF2 w μ μ' ∧ rBd w N K' μ' ∧ gAbove N tg U C B G K' ∧ gPost N tg U C B G K')) := by
  refine zC.of (own := n_R) (L := [some (zp 51), some (zi (w : Int)), none]) (by decide) rfl (by simp [zcat]) (Nat.le_of_ble_eq_true rfl) rfl (fun Γ => ?_)
  refine zU_iconst d_R_settle_0 ?_
  refine zU_istore_n d_R_settle_1 (by decide) ?_
  refine zU.eqL (L' := [some (zp 51), some (zi (w : Int)), some (zi 1)]) rfl ?_
  have hJ2 : ∀ (d : Nat) (K1 : Nat → Bool) (bm : Bool) (μ1 : zM), 2 * cnt K1 N + (if bm = true then 1 else 0) ≤ d → rF2 w μ μ1 → rBd w N K1 μ1 → gAbove N tg U C B G K1 → (bm = false → gPost N tg U C B G K1) → zU Γ b_R_settle n_R 3 none [] (zRm 1 0 26) 0 0 (zFin Γ 0 false (zRv (fun μ' => ∃ K', rF2 w μ μ' ∧ rBd w N K' μ' ∧ gAbove N tg U C B G K' ∧ gPost N tg U C B G K'))) false 0 μ1 2 [some (zp 51), some (zi (w : Int)), some (zi (zB bm))] [] := by
    intro d
    induction d using Nat.strongRecOn with
    | _ d ih2 =>
      intro K1 bm μ1 hd hF hB1 hA1 hP1
      have hT1 := rT_fr hT hF
      refine zU_iload_n d_R_settle_2 rfl ?_
      refine zU_if_eq 15 d_R_settle_3 (by decide) (zBr _) (fun h3 => ?_) (fun h3 => ?_)
      · have b3 := zB_zero.mp h3
        exact zU_return d_R_settle_15 rfl (by decide) (by decide) (⟨rfl, K1, hF, hB1, hA1, hP1 b3⟩)
      · have b3 := zB_nz.mp h3
        rw [b3, if_pos rfl] at hd
        refine zU_aload_n d_R_settle_6 rfl ?_
        refine zU_iload_n d_R_settle_7 rfl ?_
        refine zU_callVi (p0 := 51) [zi (w : Int)] d_R_settle_8 k_R_128 rfl (by decide) rfl rfl (by decide) (Nat.le_of_ble_eq_true rfl) (fun l => m_R_takesOut l μ1 hw hT1 hB1 hA1) (fun r8 μ8 h8 => ?_)
        obtain ⟨K', hF8, hB8, hA8, hs8, hr8⟩ := h8
        obtain ⟨bm', hb1, hb2, hb3⟩ := tk_end hs8 hr8
        subst hb1
        refine zU_istore_n d_R_settle_11 (by decide) ?_
        refine zU.eqL (L' := [some (zp 51), some (zi (w : Int)), some (zi (zB bm'))]) rfl ?_
        refine zU_goto 2 d_R_settle_12 (by decide) ?_
        exact ih2 _ (Nat.lt_of_lt_of_le hb2 hd) K' bm' μ8 (Nat.le_refl _) (rF2_tr hF hF8) hB8 hA8 hb3
  refine zU.loose ?_
  exact hJ2 _ K true μ (Nat.le_refl _) (rF2_rf _ _) hB hA (fun h => by cases h)
set_option maxRecDepth 100000 in
set_option maxHeartbeats 4000000 in
theorem m_R_good (l : Launch) (μ : zM) {N : Nat} {tg : Nat → Nat → Nat} {U : Nat → Nat → Bool} {C B G K : Nat → Bool} {w : Nat} (hw : w < 3) (hT : rT N tg U C G w μ) (hB : rBd w N K μ) {k e : Nat} (hk : k < N) (he : e < 12) :
    zC l y_R_good b_R_good 5 (some .int) [] 0 0 0 true [zp 51, zi (w : Int), zi (k : Int), zi (e : Int)] μ (zRi (fun r μ' => μ' = μ ∧ r = (ktg tg K k e : Int) - 1)) := by
  refine zC.of (own := n_R) (L := [some (zp 51), some (zi (w : Int)), some (zi (k : Int)), some (zi (e : Int)), none]) (by decide) rfl (by simp [zcat]) (Nat.le_of_ble_eq_true rfl) rfl (fun Γ => ?_)
  have hN := hT.2.1
  have ht := ((hT.2.2 k hk).2 e he).1.2
  refine zU_aload_n d_R_good_0 rfl ?_
  refine zU_getR 62 d_R_good_1 f_R_41 (by decide) rfl rfl rfl ?_
  refine zU_bipush d_R_good_4 (by decide) ?_
  refine zU_sipush d_R_good_6 (by decide) ?_
  refine zU_iload_n d_R_good_9 rfl ?_
  refine zU_imul d_R_good_10 ?_
  refine zU_iload_n d_R_good_11 rfl ?_
  refine zU_iadd d_R_good_12 ?_
  refine zU_imul d_R_good_13 ?_
  refine zU_iload_n d_R_good_14 rfl ?_
  refine zU_iadd d_R_good_15 ?_
  refine zU_iald (v := (tg k e : Int) - 1) d_R_good_16 (by decide) rfl (by decide) (by omega) (by rw [show ((12 * ((200 * (w : Int)) + (k : Int))) + (e : Int)).toNat = 12 * (200 * w + k) + e by omega]; exact ((hT.2.2 k hk).2 e he).1.1) ?_
  refine zU_istore d_R_good_17 (by decide) ?_
  refine zU.eqL (L' := [some (zp 51), some (zi (w : Int)), some (zi (k : Int)), some (zi (e : Int)), some (zi ((tg k e : Int) - 1))]) rfl ?_
  refine zU_iload d_R_good_19 rfl ?_
  refine zU_if_lt 40 d_R_good_21 (by decide) (by omega) (fun h21 => ?_) (fun h21 => ?_)
  · refine zU_iconst d_R_good_40 ?_
    refine zU_goto 46 d_R_good_41 (by decide) ?_
    exact zU_ireturn d_R_good_46 (Or.inl rfl) (by decide) (by decide) (⟨_, rfl, rfl, by rw [ktg_0 (by omega)]; rfl⟩)
  · refine zU_aload_n d_R_good_24 rfl ?_
    refine zU_getR 65 d_R_good_25 f_R_50 (by decide) rfl rfl rfl ?_
    refine zU_sipush d_R_good_28 (by decide) ?_
    refine zU_iload_n d_R_good_31 rfl ?_
    refine zU_imul d_R_good_32 ?_
    refine zU_iload d_R_good_33 rfl ?_
    refine zU_iadd d_R_good_35 ?_
    refine zU_zald (v := zB (!K (tg k e - 1))) d_R_good_36 (by decide) rfl (by decide) (by omega) (by rw [show ((200 * (w : Int)) + ((tg k e : Int) - 1)).toNat = 200 * w + (tg k e - 1) by omega]; exact hB _ (by omega)) ?_
    refine zU_if_eq 44 d_R_good_37 (by decide) (zBr _) (fun h37 => ?_) (fun h37 => ?_)
    · have b37 := zB_zero.mp h37
      refine zU_iload d_R_good_44 rfl ?_
      exact zU_ireturn d_R_good_46 (Or.inl rfl) (by decide) (by decide) (⟨_, rfl, rfl, by rw [ktg_t (by omega) (by simpa using b37)]⟩)
    · have b37 := zB_nz.mp h37
      refine zU_iconst d_R_good_40 ?_
      refine zU_goto 46 d_R_good_41 (by decide) ?_
      exact zU_ireturn d_R_good_46 (Or.inl rfl) (by decide) (by decide) (⟨_, rfl, rfl, by rw [ktg_K (by simpa using b37)]; rfl⟩)
set_option maxRecDepth 100000 in
set_option maxHeartbeats 4000000 in
theorem m_R_keep (l : Launch) (μ : zM) {N : Nat} {K : Nat → Bool} {O : List Nat} {k : Nat} (hk : k < N) (hN : N ≤ 200) (hB : rBd 0 N K μ) (hO : rO N O μ) :
    zC l y_R_keep b_R_keep 2 none [] 0 0 0 false [zp 51, zi (k : Int)] μ (zRv (fun μ' => rO N (if K k = true then oIns O k else O) μ' ∧ (∀ q, q ≠ 51 → q ≠ 67 → q ≠ 68 → μ' q = μ q) ∧ ∀ x, x ≠ 18 → μ' 51 x = μ 51 x)) := by
  refine zC.of (own := n_R) (L := [some (zp 51), some (zi (k : Int))]) (by decide) rfl (by simp [zcat]) (Nat.le_of_ble_eq_true rfl) rfl (fun Γ => ?_)
  have hr := rO_r hO hk
  have hl := rO_len hO
  have hKb : μ 65 k = zB (!K k) := by
    have := hB k hk
    rwa [show 200 * 0 + k = k by omega] at this
  refine zU_aload_n d_R_keep_0 rfl ?_
  refine zU_getR 65 d_R_keep_1 f_R_50 (by decide) rfl rfl rfl ?_
  refine zU_iload_n d_R_keep_4 rfl ?_
  refine zU_zald (v := zB (!K k)) d_R_keep_5 (by decide) rfl (by decide) (by omega) (hKb) ?_
  refine zU_if_ne 18 d_R_keep_6 (by decide) (zBr _) (fun h6 => ?_) (fun h6 => ?_)
  · have b6 := zB_nz.mp h6
    exact zU_return d_R_keep_18 rfl (by decide) (by decide) (⟨rfl, by rw [if_neg (by simpa using b6)]; exact hO, fun _ _ _ _ => rfl, fun _ _ => rfl⟩)
  · have b6 := zB_zero.mp h6
    refine zU_aload_n d_R_keep_9 rfl ?_
    refine zU_getR 68 d_R_keep_10 f_R_59 (by decide) rfl rfl rfl ?_
    refine zU_iload_n d_R_keep_13 rfl ?_
    refine zU_iald (v := μ 68 k) d_R_keep_14 (by decide) rfl (by decide) (by omega) (rfl) ?_
    refine zU_if_le 19 d_R_keep_15 (by decide) (by omega) (fun h15 => ?_) (fun h15 => ?_)
    · have hno : k ∉ O := by
        rcases rO_val hO hk with ⟨s, h1, h2⟩ | ⟨h1, _⟩
        · omega
        · exact h1
      have hroom := rO_room hO hk hno
      refine zU_aload_n d_R_keep_19 rfl ?_
      refine zU_getR 67 d_R_keep_20 f_R_56 (by decide) rfl rfl rfl ?_
      refine zU_aload_n d_R_keep_23 rfl ?_
      refine zU_getI (v := (O.length : Int)) d_R_keep_24 f_R_91 (by decide) rfl rfl (hO.1) ?_
      refine zU_iload_n d_R_keep_27 rfl ?_
      refine zU_iast d_R_keep_28 (by decide) rfl (by decide) (by omega) ?_
      refine zU.eqM (μ' := zup μ 67 O.length (k : Int)) rfl ?_
      refine zU_aload_n d_R_keep_29 rfl ?_
      refine zU_dup d_R_keep_30 rfl ?_
      refine zU_getI (v := (O.length : Int)) d_R_keep_31 f_R_91 (by decide) rfl rfl (by rw [zup_ne _ _ _ (by decide)]; exact hO.1) ?_
      refine zU_iconst d_R_keep_34 ?_
      refine zU_iadd d_R_keep_35 ?_
      refine zU_putI d_R_keep_36 f_R_91 p_R_kept (by decide) rfl rfl (Or.inl rfl) ?_
      refine zU.eqM (μ' := zup (zup μ 67 O.length (k : Int)) 51 18 ((O.length + 1 : Nat) : Int)) rfl ?_
      refine zU_aload_n d_R_keep_39 rfl ?_
      refine zU_getR 68 d_R_keep_40 f_R_59 (by decide) rfl rfl rfl ?_
      refine zU_iload_n d_R_keep_43 rfl ?_
      refine zU_aload_n d_R_keep_44 rfl ?_
      refine zU_getI (v := ((O.length + 1 : Nat) : Int)) d_R_keep_45 f_R_91 (by decide) rfl rfl (by rw [zup_at]; simp) ?_
      refine zU_iast d_R_keep_48 (by decide) rfl (by decide) (by omega) ?_
      refine zU.eqM (μ' := zup (zup (zup μ 67 O.length (k : Int)) 51 18 ((O.length + 1 : Nat) : Int)) 68 k ((O.length + 1 : Nat) : Int)) rfl ?_
      exact zU_return d_R_keep_49 rfl (by decide) (by decide) (⟨rfl, by rw [if_pos (by simpa using b6)]; unfold oIns; rw [if_neg hno]; exact rO_add hO hk hno (by rw [zup_ne _ _ _ (by decide), zup_at, if_pos ⟨rfl, rfl⟩]) (fun x => by rw [zup_at]; by_cases hx : x = k; { rw [if_pos ⟨rfl, hx⟩, if_pos hx] }; { rw [if_neg (by omega), if_neg hx, zup_ne _ _ _ (by decide), zup_ne _ _ _ (by decide)] }) (fun x => by rw [zup_ne _ _ _ (by decide), zup_ne _ _ _ (by decide), zup_at]; by_cases hx : x = O.length; { rw [if_pos ⟨rfl, hx⟩, if_pos hx] }; { rw [if_neg (by omega), if_neg hx] }), fun q q1 q2 q3 => by rw [zup_ne _ _ _ q3, zup_ne _ _ _ q1, zup_ne _ _ _ q2], fun x hx => by rw [zup_ne _ _ _ (by decide), zup_at, if_neg (by omega), zup_ne _ _ _ (by decide)]⟩)
    · exact zU_return d_R_keep_18 rfl (by decide) (by decide) (⟨rfl, by rw [if_pos (by simpa using b6)]; have hm : k ∈ O := (by rcases rO_val hO hk with ⟨s, h1, h2⟩ | ⟨_, h1⟩; { exact List.mem_of_getElem? h1 }; { exfalso; omega }); unfold oIns; rw [if_pos hm]; exact hO, fun _ _ _ _ => rfl, fun _ _ => rfl⟩)
