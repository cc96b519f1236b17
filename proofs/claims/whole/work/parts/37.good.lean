theorem zC.mono {l : Launch} {y : MethodName} {cc : ByteArray} {nL : Nat} {rt : Option FieldType} {hh : List (Nat × Nat × Nat × Nat)} {fr nb lo : Nat} {pb : Bool} {as : List zV} {μ : zM} {Q Q' : zO → zM → Prop}
    (h : zC l y cc nL rt hh fr nb lo pb as μ Q) (hQ : ∀ o μ', Q o μ' → Q' o μ') : zC l y cc nL rt hh fr nb lo pb as μ Q' := by
  intro htr D cA ad p e h1 h2 h3 s m args below h4 h5 h6 h7
  obtain ⟨n, o, g1, g2, g3, ⟨g4, g5, po, μ', g6, g7, g8⟩, g9⟩ := h htr D cA ad p e h1 h2 h3 s m args below h4 h5 h6 h7
  exact ⟨n, o, g1, g2, g3, ⟨g4, g5, po, μ', g6, g7, hQ _ _ g8⟩, g9⟩
abbrev gtg (g : gT) : Nat → Nat → Nat := fun k e => gTo g (12 * (k + 1) + e)
/-- the number of the kept node to which e leads from k, or 0 -/
def ktg (tg : Nat → Nat → Nat) (K : Nat → Bool) (k e : Nat) : Nat := if tg k e ≠ 0 ∧ K (tg k e - 1) = true then tg k e else 0
set_option maxRecDepth 100000 in
set_option maxHeartbeats 4000000 in
theorem m_G_ktl (l : Launch) (μ : zM) {k e : Nat} (hk : 1 ≤ k ∧ k ≤ 200) (he : e < 12) (ht : 0 ≤ μ 22 (12 * k + e) ∧ μ 22 (12 * k + e) ≤ 200) (hb : ¬ μ 22 (12 * k + e) = 0 → μ 19 (μ 22 (12 * k + e)).toNat = 0 ∨ μ 19 (μ 22 (12 * k + e)).toNat = 1) :
    zC l y_G_keptTarget b_G_keptTarget 4 (some .int) [] 0 0 0 true [zp 15, zi (k : Int), zi (e : Int)] μ (zRi (fun r μ' => μ' = μ ∧ r = if ¬ μ 22 (12 * k + e) = 0 ∧ μ 19 (μ 22 (12 * k + e)).toNat = 1 then μ 22 (12 * k + e) else 0)) := by
  refine zC.of (own := n_G) (L := [some (zp 15), some (zi (k : Int)), some (zi (e : Int)), none]) (by decide) rfl (by simp [zcat]) (Nat.le_of_ble_eq_true rfl) rfl (fun Γ => ?_)
  refine zU_aload_n d_G_keptTarget_0 rfl ?_
  refine zU_getR 22 d_G_keptTarget_1 f_G_31 (by decide) rfl rfl rfl ?_
  refine zU_iload_n d_G_keptTarget_4 rfl ?_
  refine zU_bipush d_G_keptTarget_5 (by decide) ?_
  refine zU_imul d_G_keptTarget_7 ?_
  refine zU_iload_n d_G_keptTarget_8 rfl ?_
  refine zU_iadd d_G_keptTarget_9 ?_
  refine zU_iald (v := μ 22 (12 * k + e)) d_G_keptTarget_10 (by decide) rfl (by decide) (by omega) (by congr 1; omega) ?_
  refine zU_istore_n d_G_keptTarget_11 (by decide) ?_
  refine zU.eqL (L' := [some (zp 15), some (zi (k : Int)), some (zi (e : Int)), some (zi (μ 22 (12 * k + e)))]) rfl ?_
  refine zU_iload_n d_G_keptTarget_12 rfl ?_
  refine zU_if_eq 29 d_G_keptTarget_13 (by decide) (by omega) (fun h13 => ?_) (fun h13 => ?_)
  · refine zU_iconst d_G_keptTarget_29 ?_
    exact zU_ireturn d_G_keptTarget_30 (Or.inl rfl) (by decide) (by decide) (⟨_, rfl, rfl, by rw [if_neg (fun h => h.1 h13)]⟩)
  · have hb9 := hb h13
    refine zU_aload_n d_G_keptTarget_16 rfl ?_
    refine zU_getR 19 d_G_keptTarget_17 f_G_22 (by decide) rfl rfl rfl ?_
    refine zU_iload_n d_G_keptTarget_20 rfl ?_
    refine zU_zald (v := μ 19 ((μ 22 (12 * k + e))).toNat) d_G_keptTarget_21 (by decide) rfl (by decide) (by omega) (rfl) ?_
    refine zU_if_eq 29 d_G_keptTarget_22 (by decide) (by omega) (fun h22 => ?_) (fun h22 => ?_)
    · refine zU_iconst d_G_keptTarget_29 ?_
      exact zU_ireturn d_G_keptTarget_30 (Or.inl rfl) (by decide) (by decide) (⟨_, rfl, rfl, by rw [if_neg (fun h => by omega)]⟩)
    · refine zU_iload_n d_G_keptTarget_25 rfl ?_
      refine zU_goto 30 d_G_keptTarget_26 (by decide) ?_
      exact zU_ireturn d_G_keptTarget_30 (Or.inl rfl) (by decide) (by decide) (⟨_, rfl, rfl, by rw [if_pos ⟨h13, by omega⟩]⟩)
theorem m_G_kt (l : Launch) (μ : zM) {g : gT} {K : Nat → Bool} (hG : gRep g μ) (hK : ∀ k, k < g.1.length → μ 19 (k + 1) = zB (K k)) {k e : Nat} (hk : k < g.1.length) (he : e < 12) :
    zC l y_G_keptTarget b_G_keptTarget 4 (some .int) [] 0 0 0 true [zp 15, zi ((k + 1 : Nat) : Int), zi (e : Int)] μ (zRi (fun r μ' => μ' = μ ∧ r = ((ktg (gtg g) K k e : Nat) : Int))) := by
  have hn := hG.1.2.1
  have ht := gTo_eq hG (x := 12 * (k + 1) + e) (by omega) (by omega)
  have hz : ∀ j, j < g.1.length → μ 19 (j + 1) = 0 ∨ μ 19 (j + 1) = 1 := fun j hj => by rw [hK j hj]; exact zB_or _
  have key : ∀ j, ¬ (0 ≤ μ 22 (12 * (k + 1) + e) ∧ μ 22 (12 * (k + 1) + e) ≤ 200) → False := fun j h => h (by rw [ht.1]; omega)
  refine zC.mono (m_G_ktl l μ (k := k + 1) (e := e) ⟨by omega, by omega⟩ he (by rw [ht.1]; omega) (fun h0 => by
    have h1 : (μ 22 (12 * (k + 1) + e)).toNat = gTo g (12 * (k + 1) + e) - 1 + 1 := by rw [ht.1]; rw [ht.1] at h0; omega
    rw [h1]
    exact hz _ (by rw [ht.1] at h0; omega))) (fun o μ' h => ?_)
  obtain ⟨r, h1, h2, h3⟩ := h
  refine ⟨r, h1, h2, ?_⟩
  rw [h3, ht.1]
  unfold ktg gtg
  by_cases h0 : gTo g (12 * (k + 1) + e) = 0
  · rw [if_neg (fun h => h.1 (by rw [h0]; rfl)), if_neg (fun h => h.1 h0)]
    rfl
  · have e1 : ((gTo g (12 * (k + 1) + e) : Nat) : Int).toNat = gTo g (12 * (k + 1) + e) - 1 + 1 := by omega
    have e2 : μ 19 ((gTo g (12 * (k + 1) + e) : Nat) : Int).toNat = zB (K (gTo g (12 * (k + 1) + e) - 1)) := by rw [e1]; exact hK _ (by omega)
    rw [e2]
    by_cases hKt : K (gTo g (12 * (k + 1) + e) - 1) = true
    · rw [if_pos ⟨by omega, zB_one.mpr hKt⟩, if_pos ⟨h0, hKt⟩]
    · rw [if_neg (fun h => hKt (zB_one.mp h.2)), if_neg (fun h => hKt h.2)]
      rfl
/-! the good nodes -/
def gPost (n : Nat) (tg : Nat → Nat → Nat) (U : Nat → Nat → Bool) (C B G Z : Nat → Bool) : Prop := (∀ k, k < n → Z k = true → B k = true) ∧ (∀ k, k < n → Z k = true → ∀ e, e < 12 → U k e = true → C e = false → ktg tg Z k e ≠ 0) ∧ ∀ k, k < n → Z k = true → ∃ d, rch tg Z G d k = true
/-- the plants may do there what can't be forbidden and leads to no kept node -/
def unr (tg : Nat → Nat → Nat) (U : Nat → Nat → Bool) (C K : Nat → Bool) (k : Nat) : Bool := (List.range 12).any (fun e => (U k e && !C e) && decide (ktg tg K k e = 0))
theorem ktg_mono {n : Nat} {tg : Nat → Nat → Nat} {Z K : Nat → Bool} (hZ : ∀ k, k < n → Z k = true → K k = true) {k e : Nat} (ht : tg k e ≤ n) (h : ktg tg Z k e ≠ 0) : ktg tg K k e ≠ 0 := by
  unfold ktg at *
  by_cases hc : tg k e ≠ 0 ∧ Z (tg k e - 1) = true
  · rw [if_pos ⟨hc.1, hZ _ (by have := hc.1; omega) hc.2⟩]
    exact hc.1
  · rw [if_neg hc] at h
    exact absurd rfl h
theorem rch_mono {n : Nat} {tg : Nat → Nat → Nat} {Z K G : Nat → Bool} (hZ : ∀ k, k < n → Z k = true → K k = true) (ht : ∀ k e, k < n → e < 12 → tg k e ≤ n) : ∀ d k, k < n → rch tg Z G d k = true → rch tg K G d k = true
  | 0, k, hk, h => by
    simp only [rch, Bool.and_eq_true] at h ⊢
    exact ⟨hZ k hk h.1, h.2⟩
  | d + 1, k, hk, h => by
    simp only [rch, Bool.or_eq_true, Bool.and_eq_true] at h ⊢
    rcases h with h | ⟨h1, h2⟩
    · exact Or.inl (rch_mono hZ ht d k hk h)
    · obtain ⟨e, he, h3⟩ := any_iff.mp h2
      simp only [Bool.and_eq_true, decide_eq_true_eq] at h3
      refine Or.inr ⟨hZ k hk h1, any_iff.mpr ⟨e, he, ?_⟩⟩
      simp only [Bool.and_eq_true, decide_eq_true_eq]
      have := ht k e hk he
      exact ⟨h3.1, rch_mono hZ ht d _ (by have := h3.1; omega) h3.2⟩
theorem unr_out {n : Nat} {tg : Nat → Nat → Nat} {U : Nat → Nat → Bool} {C B G Z K : Nat → Bool} (hP : gPost n tg U C B G Z) (hZ : ∀ k, k < n → Z k = true → K k = true) (ht : ∀ k e, k < n → e < 12 → tg k e ≤ n) {k : Nat} (hk : k < n) (hu : unr tg U C K k = true) : Z k = false := by
  cases h : Z k
  · rfl
  · obtain ⟨e, he, h1⟩ := any_iff.mp hu
    simp only [Bool.and_eq_true, decide_eq_true_eq, Bool.not_eq_true'] at h1
    exact absurd h1.2 (ktg_mono hZ (ht k e hk he) (hP.2.1 k hk h e he h1.1.1 h1.1.2))
/-- the greatest such set, as far as it has been cut out -/
def gAbove (n : Nat) (tg : Nat → Nat → Nat) (U : Nat → Nat → Bool) (C B G K : Nat → Bool) : Prop := (∀ k, k < n → K k = true → B k = true) ∧ ∀ Z, gPost n tg U C B G Z → ∀ k, k < n → Z k = true → K k = true
theorem gAbove_cut {n : Nat} {tg : Nat → Nat → Nat} {U : Nat → Nat → Bool} {C B G K K' : Nat → Bool} (h : gAbove n tg U C B G K) (hs : ∀ k, k < n → K' k = true → K k = true) (hc : ∀ Z, gPost n tg U C B G Z → ∀ k, k < n → Z k = true → K k = true → K' k = true) : gAbove n tg U C B G K' :=
  ⟨fun k hk hk' => h.1 k hk (hs k hk hk'), fun Z hZ k hk hz => hc Z hZ k hk hz (h.2 Z hZ k hk hz)⟩
theorem mDist_r {tg : Nat → Nat → Nat} {K G : Nat → Bool} {k : Nat} {v : Int} (h : mDist tg K G k v) : -1 ≤ v ∧ v ≤ 200 := by
  rcases h with ⟨h, -⟩ | ⟨d, h, h2, -⟩ <;> omega
theorem mDist_dead {tg : Nat → Nat → Nat} {K G : Nat → Bool} {k : Nat} {v : Int} (h : mDist tg K G k v) : v = -1 ↔ ∀ d, rch tg K G d k = false := by
  rcases h with ⟨h, h2⟩ | ⟨d, h, h2, h3, h4⟩
  · exact ⟨fun _ => h2, fun _ => h⟩
  · exact ⟨fun h5 => by omega, fun h5 => by rw [h5 d] at h3; cases h3⟩
theorem cnt_mono {f g : Nat → Bool} : ∀ n, (∀ k, k < n → f k = true → g k = true) → cnt f n ≤ cnt g n
  | 0, _ => Nat.le_refl _
  | n + 1, h => by
    have ih := cnt_mono n (fun k hk => h k (by omega))
    unfold cnt
    by_cases hf : f n = true
    · rw [if_pos hf, if_pos (h n (by omega) hf)]
      omega
    · rw [if_neg hf]
      split <;> omega
theorem cnt_less {f g : Nat → Bool} : ∀ n, (∀ k, k < n → f k = true → g k = true) → (∃ k, k < n ∧ f k = false ∧ g k = true) → cnt f n < cnt g n
  | 0, _, ⟨k, hk, _⟩ => absurd hk (by omega)
  | n + 1, h, ⟨k, hk, h1, h2⟩ => by
    have hm := cnt_mono n (fun k hk => h k (by omega))
    unfold cnt
    by_cases hkn : k = n
    · subst hkn
      rw [h1, h2]
      simp
      omega
    · have := cnt_less n (fun k hk => h k (by omega)) ⟨k, by omega, h1, h2⟩
      by_cases hf : f n = true
      · rw [if_pos hf, if_pos (h n (by omega) hf)]
        omega
      · rw [if_neg hf]
        split <;> omega
theorem ktg_le {g : gT} {μ : zM} {K : Nat → Bool} (hG : gRep g μ) {k e : Nat} (hk : k < g.1.length) (he : e < 12) : ktg (gtg g) K k e ≤ g.1.length := by
  unfold ktg gtg
  split
  · exact (gTo_eq hG (by omega) (by omega)).2
  · omega
theorem dU0 {n k j : Nat} {x : Int} {K K1 : Nat → Bool} {f : Nat → Bool} (hx : (x = 0 ∧ (∀ j, K1 j = K j) ∧ ∀ i, k ≤ i → i < n → K i = true → f i = false) ∨ (x = 1 ∧ ∃ j, j < n ∧ K1 j = false ∧ K j = true)) (hk : k = j + 1) (h : K1 j = true → False) :
    (x = 0 ∧ (∀ j, K1 j = K j) ∧ ∀ i, j ≤ i → i < n → K i = true → f i = false) ∨ (x = 1 ∧ ∃ j, j < n ∧ K1 j = false ∧ K j = true) := by
  rcases hx with ⟨h1, h2, h3⟩ | h1
  · refine Or.inl ⟨h1, h2, fun i hi hin hKi => ?_⟩
    by_cases hij : i = j
    · subst hij
      exact absurd (by rw [h2]; exact hKi) h
    · exact h3 i (by omega) hin hKi
  · exact Or.inr h1
theorem dU1 {n k j : Nat} {x : Int} {tg : Nat → Nat → Nat} {U : Nat → Nat → Bool} {C K K1 : Nat → Bool} (hx : (x = 0 ∧ (∀ j, K1 j = K j) ∧ ∀ i, k ≤ i → i < n → K i = true → unr tg U C K i = false) ∨ (x = 1 ∧ ∃ j, j < n ∧ K1 j = false ∧ K j = true)) (hk : k = j + 1) (h : unr tg U C K1 j = false) :
    (x = 0 ∧ (∀ j, K1 j = K j) ∧ ∀ i, j ≤ i → i < n → K i = true → unr tg U C K i = false) ∨ (x = 1 ∧ ∃ j, j < n ∧ K1 j = false ∧ K j = true) := by
  rcases hx with ⟨h1, h2, h3⟩ | h1
  · refine Or.inl ⟨h1, h2, fun i hi hin hKi => ?_⟩
    by_cases hij : i = j
    · subst hij
      have : K1 = K := funext h2
      rw [← this]
      exact h
    · exact h3 i (by omega) hin hKi
  · exact Or.inr h1
set_option maxRecDepth 100000 in
set_option maxHeartbeats 4000000 in
theorem m_Y_isUnruly (l : Launch) (μ : zM) {g : gT} {K : Nat → Bool} {U : Nat → Nat → Bool} {C : Nat → Bool} (hG : gRep g μ) (hK : ∀ k, k < g.1.length → μ 19 (k + 1) = zB (K k)) (hU : ∀ k, k < g.1.length → zmask 12 (μ 27 (k + 1)) (U k)) (hC : zmask 12 (μ 1 3) C) {k : Nat} (hk : k < g.1.length) :
    zC l y_Y_isUnruly b_Y_isUnruly 4 (some .boolean) [] 1 0 23 true [zp 26, zi ((k + 1 : Nat) : Int)] μ (zRi (fun r μ' => μ' = μ ∧ r = zB (unr (gtg g) U C K k))) := by
  refine zC.of (own := n_Y) (L := [some (zp 26), some (zi ((k + 1 : Nat) : Int)), none, none]) (by decide) rfl (by simp [zcat]) (Nat.le_of_ble_eq_true rfl) rfl (fun Γ => ?_)
  have hn := hG.1.2.1
  refine zU_aload_n d_Y_isUnruly_0 rfl ?_
  refine zU_getR 27 d_Y_isUnruly_1 f_Y_9 (by decide) rfl rfl rfl ?_
  refine zU_iload_n d_Y_isUnruly_4 rfl ?_
  refine zU_iald (v := μ 27 (k + 1)) d_Y_isUnruly_5 (by decide) rfl (by decide) (by omega) (rfl) ?_
  refine zU_aload_n d_Y_isUnruly_6 rfl ?_
  refine zU_getR 1 d_Y_isUnruly_7 f_Y_21 (by decide) rfl rfl rfl ?_
  refine zU_getI (v := μ 1 3) d_Y_isUnruly_10 f_Y_120 (by decide) rfl rfl (rfl) ?_
  refine zU_iconst d_Y_isUnruly_13 ?_
  refine zU_ixor d_Y_isUnruly_14 ?_
  refine zU_iand d_Y_isUnruly_15 ?_
  refine zU_istore_n d_Y_isUnruly_16 (by decide) ?_
  refine zU.eqL (L' := [some (zp 26), some (zi ((k + 1 : Nat) : Int)), some (zi (zand (μ 27 (k + 1)) (zxor (μ 1 3) (-1)))), none]) rfl ?_
  refine zU_iconst d_Y_isUnruly_17 ?_
  refine zU_istore_n d_Y_isUnruly_18 (by decide) ?_
  refine zU.eqL (L' := [some (zp 26), some (zi ((k + 1 : Nat) : Int)), some (zi (zand (μ 27 (k + 1)) (zxor (μ 1 3) (-1)))), some (zi 0)]) rfl ?_
  have hJ19 : ∀ (d : Nat) (e : Nat), e + d = 12 → (∀ j, j < e → ((U k j && !C j) && decide (ktg (gtg g) K k j = 0)) = false) → zU Γ b_Y_isUnruly n_Y 4 (some .boolean) [] (zRm 1 0 23) 0 0 (zFin Γ 0 true (zRi (fun r μ' => μ' = μ ∧ r = zB (unr (gtg g) U C K k)))) true 0 μ 19 [some (zp 26), some (zi ((k + 1 : Nat) : Int)), some (zi (zand (μ 27 (k + 1)) (zxor (μ 1 3) (-1)))), some (zi (e : Int))] [] := by
    intro d
    induction d using Nat.strongRecOn with
    | _ d ih19 =>
      intro e hd hb
      have hbe : ∀ e, e < 12 → zbt (zand (μ 27 (k + 1)) (zxor (μ 1 3) (-1))) e = (U k e && !C e) := fun e he => by rw [zbt_and, zbt_not _ (by omega), (hU k hk).2 e he, hC.2 e he]
      refine zU_iload_n d_Y_isUnruly_19 rfl ?_
      refine zU_bipush d_Y_isUnruly_20 (by decide) ?_
      refine zU_icmp_ge 53 d_Y_isUnruly_22 (by decide) (by omega) (by omega) (fun h22 => ?_) (fun h22 => ?_)
      · refine zU_iconst d_Y_isUnruly_53 ?_
        exact zU_ireturn d_Y_isUnruly_54 (Or.inr ⟨rfl, by omega⟩) (by decide) (by decide) (⟨_, rfl, rfl, by rw [eq_comm, zB_zero]; have he : e = 12 := (by omega); subst he; exact any_not hb⟩)
      · refine zU_iload_n d_Y_isUnruly_25 rfl ?_
        refine zU_iload_n d_Y_isUnruly_26 rfl ?_
        refine zU_callSi [zi (zand (μ 27 (k + 1)) (zxor (μ 1 3) (-1))), zi (e : Int)] d_Y_isUnruly_27 k_Y_97 rfl (by decide) (Nat.le_of_ble_eq_true rfl) (fun l => m_C_hasBit l μ _ e (zand_r _ _) (by omega)) (fun r27 μ27 h27 => ?_)
        obtain ⟨hμ27, rfl⟩ := h27
        replace hμ27 := hμ27.symm
        subst hμ27
        refine zU_if_eq 47 d_Y_isUnruly_30 (by decide) (zBr _) (fun h30 => ?_) (fun h30 => ?_)
        · refine zU_iinc d_Y_isUnruly_47 rfl ?_
          refine zU.eqL (L' := [some (zp 26), some (zi ((k + 1 : Nat) : Int)), some (zi (zand (μ 27 (k + 1)) (zxor (μ 1 3) (-1)))), some (zi (((e + 1 : Nat) : Int)))]) (by first | rfl | exact congrArg (fun zz : Int => [some (zp 26), some (zi ((k + 1 : Nat) : Int)), some (zi (zand (μ 27 (k + 1)) (zxor (μ 1 3) (-1)))), some (zi zz)]) (show ((e : Int) + 1 : Int) = ((e + 1 : Nat) : Int) by omega)) ?_
          refine zU_goto 19 d_Y_isUnruly_50 (by decide) ?_
          exact ih19 (d - 1) (by omega) (e + 1) (by omega) (zrn hb (by rw [← hbe e (by omega), zB_zero.mp h30]; rfl))
        · refine zU_aload_n d_Y_isUnruly_33 rfl ?_
          refine zU_getR 15 d_Y_isUnruly_34 f_Y_25 (by decide) rfl rfl rfl ?_
          refine zU_iload_n d_Y_isUnruly_37 rfl ?_
          refine zU_iload_n d_Y_isUnruly_38 rfl ?_
          refine zU_callVi (p0 := 15) [zi ((k + 1 : Nat) : Int), zi (e : Int)] d_Y_isUnruly_39 k_Y_123 rfl (by decide) rfl rfl (by decide) (Nat.le_of_ble_eq_true rfl) (fun l => m_G_kt l μ hG hK hk (by omega)) (fun r39 μ39 h39 => ?_)
          obtain ⟨hμ39, rfl⟩ := h39
          replace hμ39 := hμ39.symm
          subst hμ39
          refine zU_if_ne 47 d_Y_isUnruly_42 (by decide) (by have := ktg_le (K := K) hG hk (e := e) (by omega); omega) (fun h42 => ?_) (fun h42 => ?_)
          · refine zU_iinc d_Y_isUnruly_47 rfl ?_
            refine zU.eqL (L' := [some (zp 26), some (zi ((k + 1 : Nat) : Int)), some (zi (zand (μ 27 (k + 1)) (zxor (μ 1 3) (-1)))), some (zi (((e + 1 : Nat) : Int)))]) (by first | rfl | exact congrArg (fun zz : Int => [some (zp 26), some (zi ((k + 1 : Nat) : Int)), some (zi (zand (μ 27 (k + 1)) (zxor (μ 1 3) (-1)))), some (zi zz)]) (show ((e : Int) + 1 : Int) = ((e + 1 : Nat) : Int) by omega)) ?_
            refine zU_goto 19 d_Y_isUnruly_50 (by decide) ?_
            exact ih19 (d - 1) (by omega) (e + 1) (by omega) (zrn hb (by have : ¬ ktg (gtg g) K k e = 0 := (by omega); simp [this]))
          · refine zU_iconst d_Y_isUnruly_45 ?_
            exact zU_ireturn d_Y_isUnruly_46 (Or.inr ⟨rfl, by omega⟩) (by decide) (by decide) (⟨_, rfl, rfl, by rw [eq_comm, zB_one]; exact any_iff.mpr ⟨e, by omega, by rw [← hbe e (by omega), zB_nz.mp h30]; have : ktg (gtg g) K k e = 0 := (by omega); simp [this]⟩⟩)
  exact hJ19 12 0 (by omega) (fun j hj => absurd hj (by omega))
set_option maxRecDepth 100000 in
set_option maxHeartbeats 4000000 in
theorem m_Y_dropUnruly (l : Launch) (μ : zM) {g : gT} {K : Nat → Bool} {U : Nat → Nat → Bool} {C : Nat → Bool} (hG : gRep g μ) (hK : ∀ k, k < g.1.length → μ 19 (k + 1) = zB (K k)) (hU : ∀ k, k < g.1.length → zmask 12 (μ 27 (k + 1)) (U k)) (hC : zmask 12 (μ 1 3) C) {B G : Nat → Bool} (hA : gAbove g.1.length (gtg g) U C B G K) :
    zC l y_Y_dropUnruly b_Y_dropUnruly 3 (some .boolean) [] 2 0 46 false [zp 26] μ (zRi (fun r μ' => ∃ K' : Nat → Bool, (∀ k, k < g.1.length → μ' 19 (k + 1) = zB (K' k)) ∧ gAbove g.1.length (gtg g) U C B G K' ∧ (∀ k, k < g.1.length → K' k = true → K k = true) ∧ ((r = 0 ∧ K' = K ∧ ∀ k, k < g.1.length → K k = true → unr (gtg g) U C K k = false) ∨ (r = 1 ∧ ∃ k, k < g.1.length ∧ K' k = false ∧ K k = true)) ∧ ∀ q, q ≠ 19 → μ' q = μ q)) := by
  refine zC.of (own := n_Y) (L := [some (zp 26), none, none]) (by decide) rfl (by simp [zcat]) (Nat.le_of_ble_eq_true rfl) rfl (fun Γ => ?_)
  have hn := hG.1.2.1
  have htg : ∀ k e, k < g.1.length → e < 12 → gtg g k e ≤ g.1.length := fun k e hk he => (gTo_eq hG (by omega) (by omega)).2
  refine zU_iconst d_Y_dropUnruly_0 ?_
  refine zU_istore_n d_Y_dropUnruly_1 (by decide) ?_
  refine zU.eqL (L' := [some (zp 26), some (zi 0), none]) rfl ?_
  refine zU_aload_n d_Y_dropUnruly_2 rfl ?_
  refine zU_getR 15 d_Y_dropUnruly_3 f_Y_25 (by decide) rfl rfl rfl ?_
  refine zU_getI (v := (g.1.length : Int)) d_Y_dropUnruly_6 f_Y_36 (by decide) rfl rfl (hG.1.1) ?_
  refine zU_istore_n d_Y_dropUnruly_9 (by decide) ?_
  refine zU.eqL (L' := [some (zp 26), some (zi 0), some (zi ((g.1.length : Int)))]) rfl ?_
  have hJ10 : ∀ (d : Nat) (k : Nat) (x : Int) (μ1 : zM) (K1 : Nat → Bool), k = d → k ≤ g.1.length → (∀ j, j < g.1.length → μ1 19 (j + 1) = zB (K1 j)) → gAbove g.1.length (gtg g) U C B G K1 → (∀ j, j < g.1.length → K1 j = true → K j = true) → ((x = 0 ∧ (∀ j, K1 j = K j) ∧ ∀ j, k ≤ j → j < g.1.length → K j = true → unr (gtg g) U C K j = false) ∨ (x = 1 ∧ ∃ j, j < g.1.length ∧ K1 j = false ∧ K j = true)) → (∀ q, q ≠ 19 → μ1 q = μ q) → zU Γ b_Y_dropUnruly n_Y 3 (some .boolean) [] (zRm 2 0 46) 0 0 (zFin Γ 0 false (zRi (fun r μ' => ∃ K' : Nat → Bool, (∀ k, k < g.1.length → μ' 19 (k + 1) = zB (K' k)) ∧ gAbove g.1.length (gtg g) U C B G K' ∧ (∀ k, k < g.1.length → K' k = true → K k = true) ∧ ((r = 0 ∧ K' = K ∧ ∀ k, k < g.1.length → K k = true → unr (gtg g) U C K k = false) ∨ (r = 1 ∧ ∃ k, k < g.1.length ∧ K' k = false ∧ K k = true)) ∧ ∀ q, q ≠ 19 → μ' q = μ q))) false 0 μ1 10 [some (zp 26), some (zi x), some (zi (k : Int))] [] := by
    intro d
    induction d using Nat.strongRecOn with
    | _ d ih10 =>
      intro k x μ1 K1 hd hkn hk1 hA1 hs1 hx hq
      have hxr : x = 0 ∨ x = 1 := by rcases hx with h | h <;> omega
      refine zU_iload_n d_Y_dropUnruly_10 rfl ?_
      refine zU_iconst d_Y_dropUnruly_11 ?_
      refine zU_icmp_lt 53 d_Y_dropUnruly_12 (by decide) (by omega) (by omega) (fun h12 => ?_) (fun h12 => ?_)
      · refine zU_iload_n d_Y_dropUnruly_53 rfl ?_
        exact zU_ireturn d_Y_dropUnruly_54 (Or.inr ⟨rfl, hxr⟩) (by decide) (by decide) (⟨_, rfl, K1, hk1, hA1, hs1, by rcases hx with ⟨h1, h2, h3⟩ | h; { exact Or.inl ⟨h1, funext h2, fun i hi => h3 i (by omega) hi⟩ }; { exact Or.inr h }, hq⟩)
      · obtain ⟨j, hjk⟩ : ∃ j, k = j + 1 := ⟨k - 1, by omega⟩
        subst hjk
        have hjk : j + 1 = j + 1 := rfl
        have hG1 : gRep g μ1 := gRep_congr hG (fun q h => hq q (by omega))
        refine zU.eqL (L' := [some (zp 26), some (zi x), some (zi ((j + 1 : Nat) : Int))]) (rfl) ?_
        refine zU_aload_n d_Y_dropUnruly_15 rfl ?_
        refine zU_getR 15 d_Y_dropUnruly_16 f_Y_25 (by decide) rfl rfl rfl ?_
        refine zU_getR 19 d_Y_dropUnruly_19 f_Y_85 (by decide) rfl rfl rfl ?_
        refine zU_iload_n d_Y_dropUnruly_22 rfl ?_
        refine zU_zald (v := zB (K1 j)) d_Y_dropUnruly_23 (by decide) rfl (by decide) (by omega) (hk1 j (by omega)) ?_
        refine zU_if_eq 47 d_Y_dropUnruly_24 (by decide) (zBr _) (fun h24 => ?_) (fun h24 => ?_)
        · refine zU_iinc d_Y_dropUnruly_47 rfl ?_
          refine zU.eqL (L' := [some (zp 26), some (zi x), some (zi ((j : Int)))]) (by first | rfl | exact congrArg (fun zz : Int => [some (zp 26), some (zi x), some (zi zz)]) (show (((j + 1 : Nat) : Int) + (-1) : Int) = (j : Int) by omega)) ?_
          refine zU_goto 10 d_Y_dropUnruly_50 (by decide) ?_
          exact ih10 j (by omega) j x μ1 K1 rfl (by omega) hk1 hA1 hs1 (dU0 hx hjk (fun h => absurd (zB_zero.mp h24) (by rw [h]; decide))) hq
        · refine zU_aload_n d_Y_dropUnruly_27 rfl ?_
          refine zU_iload_n d_Y_dropUnruly_28 rfl ?_
          refine zU_callVi (p0 := 26) [zi ((j + 1 : Nat) : Int)] d_Y_dropUnruly_29 k_Y_117 rfl (by decide) rfl rfl (by decide) (Nat.le_of_ble_eq_true rfl) (fun l => m_Y_isUnruly l μ1 hG1 hk1 (fun k hk => by rw [hq 27 (by decide)]; exact hU k hk) (by rw [hq 1 (by decide)]; exact hC) (by omega)) (fun r29 μ29 h29 => ?_)
          obtain ⟨hμ29, rfl⟩ := h29
          replace hμ29 := hμ29.symm
          subst hμ29
          refine zU_if_eq 47 d_Y_dropUnruly_32 (by decide) (zBr _) (fun h32 => ?_) (fun h32 => ?_)
          · refine zU_iinc d_Y_dropUnruly_47 rfl ?_
            refine zU.eqL (L' := [some (zp 26), some (zi x), some (zi ((j : Int)))]) (by first | rfl | exact congrArg (fun zz : Int => [some (zp 26), some (zi x), some (zi zz)]) (show (((j + 1 : Nat) : Int) + (-1) : Int) = (j : Int) by omega)) ?_
            refine zU_goto 10 d_Y_dropUnruly_50 (by decide) ?_
            exact ih10 j (by omega) j x μ1 K1 rfl (by omega) hk1 hA1 hs1 (dU1 hx hjk (zB_zero.mp h32)) hq
          · refine zU_aload_n d_Y_dropUnruly_35 rfl ?_
            refine zU_getR 15 d_Y_dropUnruly_36 f_Y_25 (by decide) rfl rfl rfl ?_
            refine zU_getR 19 d_Y_dropUnruly_39 f_Y_85 (by decide) rfl rfl rfl ?_
            refine zU_iload_n d_Y_dropUnruly_42 rfl ?_
            refine zU_iconst d_Y_dropUnruly_43 ?_
            refine zU_zast d_Y_dropUnruly_44 (by decide) rfl (by decide) (by omega) (by omega) ?_
            refine zU.eqM (μ' := zup μ1 19 (j + 1) 0) rfl ?_
            refine zU_iconst d_Y_dropUnruly_45 ?_
            refine zU_istore_n d_Y_dropUnruly_46 (by decide) ?_
            refine zU.eqL (L' := [some (zp 26), some (zi 1), some (zi ((j + 1 : Nat) : Int))]) rfl ?_
            refine zU_iinc d_Y_dropUnruly_47 rfl ?_
            refine zU.eqL (L' := [some (zp 26), some (zi 1), some (zi ((j : Int)))]) (by first | rfl | exact congrArg (fun zz : Int => [some (zp 26), some (zi 1), some (zi zz)]) (show (((j + 1 : Nat) : Int) + (-1) : Int) = (j : Int) by omega)) ?_
            refine zU_goto 10 d_Y_dropUnruly_50 (by decide) ?_
            exact ih10 j (by omega) j 1 _ (fun i => if i = j then false else K1 i) rfl (by omega) (fun i hi => by rw [zup_at]; by_cases h : i = j; { subst h; simp [zB] }; { have h3 : ¬ (i + 1 = j + 1) := (by omega); simp only [h3, h, and_false, if_false]; exact hk1 i hi }) (gAbove_cut hA1 (fun i _ h => by by_cases h2 : i = j; { simp [h2] at h }; { simpa [h2] using h }) (fun Z hZ i hi hz h1 => by by_cases h2 : i = j; { subst h2; rw [unr_out hZ (hA1.2 Z hZ) htg hi (zB_nz.mp h32)] at hz; cases hz }; { simpa [h2] using h1 })) (fun i hi h => by by_cases h2 : i = j; { simp [h2] at h }; { exact hs1 i hi (by simpa [h2] using h) }) (Or.inr ⟨rfl, j, by omega, by simp, hs1 j (by omega) (zB_nz.mp h24)⟩) (fun q q1 => by rw [zup_ne _ _ _ q1]; exact hq q q1)
  refine zU.loose ?_
  exact hJ10 g.1.length _ 0 μ K rfl (by omega) hK hA (fun _ _ h => h) (Or.inl ⟨rfl, fun _ => rfl, fun j h1 h2 => absurd h1 (by omega)⟩) (fun _ _ => rfl)
