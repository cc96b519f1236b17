theorem unr_no {tg : Nat → Nat → Nat} {U : Nat → Nat → Bool} {C K : Nat → Bool} {k e : Nat} (h : unr tg U C K k = false) (he : e < 12) (hu : U k e = true) (hc : C e = false) : ktg tg K k e ≠ 0 := by
  intro h0
  have : unr tg U C K k = true := any_iff.mpr ⟨e, he, by simp [hu, hc, h0]⟩
  rw [h] at this
  cases this
theorem any_none {f : Nat → Bool} {n : Nat} (h : (List.range n).any f = false) {k : Nat} (hk : k < n) : f k = false := by
  cases hf : f k
  · rfl
  · have : (List.range n).any f = true := any_iff.mpr ⟨k, hk, hf⟩
    rw [h] at this
    cases this
/-- a round of keepGood that drops dead ends -/
theorem kGd {g : gT} {μ : zM} {U : Nat → Nat → Bool} {C B G K : Nat → Bool} (hG : gRep g μ) (hA : gAbove g.1.length (gtg g) U C B G K) {f : Nat → Int} (hD : ∀ k, k < g.1.length → mDist (gtg g) K G k (f k)) :
    gAbove g.1.length (gtg g) U C B G (fun k => K k && !decide (f k = -1)) := by
  refine gAbove_cut hA (fun k _ h => by simp only [Bool.and_eq_true] at h; exact h.1) (fun Z hZ k hk hz h1 => ?_)
  obtain ⟨d, hd⟩ := hZ.2.2 k hk hz
  have := rch_mono (n := g.1.length) (hA.2 Z hZ) (fun k e hk he => (gTo_eq hG (by omega) (by omega)).2) d k hk hd
  have h2 : ¬ f k = -1 := fun h => by
    rw [(mDist_dead (hD k hk)).mp h d] at this
    cases this
  simp [h1, h2]
/-- the last round of keepGood -/
theorem kGp {g : gT} {U : Nat → Nat → Bool} {C B G K : Nat → Bool} (hA : gAbove g.1.length (gtg g) U C B G K) (hu : ∀ k, k < g.1.length → K k = true → unr (gtg g) U C K k = false) {f : Nat → Int} (hD : ∀ k, k < g.1.length → mDist (gtg g) K G k (f k)) (hn : (List.range g.1.length).any (fun k => K k && decide (f k = -1)) = false) :
    gPost g.1.length (gtg g) U C B G K := by
  refine ⟨hA.1, fun k hk h e he h1 h2 => unr_no (hu k hk h) he h1 h2, fun k hk h => ?_⟩
  have h1 := any_none hn hk
  simp only [h, Bool.true_and, decide_eq_false_iff_not] at h1
  rcases hD k hk with ⟨h2, -⟩ | ⟨d, -, -, h3, -⟩
  · exact absurd h2 h1
  · exact ⟨d, h3⟩
set_option maxRecDepth 100000 in
set_option maxHeartbeats 4000000 in
theorem m_Y_keepGood (l : Launch) (μ : zM) {g : gT} {U : Nat → Nat → Bool} {C B G : Nat → Bool} (hG : gRep g μ) (hK : ∀ k, k < g.1.length → μ 19 (k + 1) = zB (B k)) (hM : ∀ k, k < g.1.length → μ 18 (k + 1) = zB (G k)) (hU : ∀ k, k < g.1.length → zmask 12 (μ 27 (k + 1)) (U k)) (hC : zmask 12 (μ 1 3) C) (hES : g.2.1.length ≤ 2400) :
    zC l y_Y_keepGood b_Y_keepGood 3 none [] 3 0 68 false [zp 26] μ (zRv (fun μ' => ∃ K : Nat → Bool, (∀ k, k < g.1.length → μ' 19 (k + 1) = zB (K k)) ∧ gPost g.1.length (gtg g) U C B G K ∧ gAbove g.1.length (gtg g) U C B G K ∧ (∀ k, k < g.1.length → mDist (gtg g) K G k (μ' 20 (k + 1))) ∧ ∀ q, q ≠ 19 → q ≠ 20 → q ≠ 25 → μ' q = μ q)) := by
  refine zC.of (own := n_Y) (L := [some (zp 26), none, none]) (by decide) rfl (by simp [zcat]) (Nat.le_of_ble_eq_true rfl) rfl (fun Γ => ?_)
  have hn := hG.1.2.1
  refine zU_iconst d_Y_keepGood_0 ?_
  refine zU_istore_n d_Y_keepGood_1 (by decide) ?_
  refine zU.eqL (L' := [some (zp 26), some (zi 1), none]) rfl ?_
  refine zU_iconst d_Y_keepGood_2 ?_
  refine zU_istore_n d_Y_keepGood_3 (by decide) ?_
  refine zU.eqL (L' := [some (zp 26), some (zi 1), some (zi 0)]) rfl ?_
  have hJ4 : ∀ (d : Nat) (i : Nat) (x : Int) (μ1 : zM) (K1 : Nat → Bool), i + d = 201 → (∀ j, j < g.1.length → μ1 19 (j + 1) = zB (K1 j)) → gAbove g.1.length (gtg g) U C B G K1 → ((x = 1 ∧ cnt K1 g.1.length + i ≤ g.1.length) ∨ (x = 0 ∧ gPost g.1.length (gtg g) U C B G K1 ∧ ∀ k, k < g.1.length → mDist (gtg g) K1 G k (μ1 20 (k + 1)))) → (∀ q, q ≠ 19 → q ≠ 20 → q ≠ 25 → μ1 q = μ q) → zU Γ b_Y_keepGood n_Y 3 none [] (zRm 3 0 68) 0 0 (zFin Γ 0 false (zRv (fun μ' => ∃ K : Nat → Bool, (∀ k, k < g.1.length → μ' 19 (k + 1) = zB (K k)) ∧ gPost g.1.length (gtg g) U C B G K ∧ gAbove g.1.length (gtg g) U C B G K ∧ (∀ k, k < g.1.length → mDist (gtg g) K G k (μ' 20 (k + 1))) ∧ ∀ q, q ≠ 19 → q ≠ 20 → q ≠ 25 → μ' q = μ q))) false 0 μ1 4 [some (zp 26), some (zi x), some (zi (i : Int))] [] := by
    intro d
    induction d using Nat.strongRecOn with
    | _ d ih4 =>
      intro i x μ1 K1 hd hk1 hA1 hx hq
      have hxr : x = 0 ∨ x = 1 := by rcases hx with h | h <;> omega
      refine zU_iload_n d_Y_keepGood_4 rfl ?_
      refine zU_if_eq 45 d_Y_keepGood_5 (by decide) (by omega) (fun h5 => ?_) (fun h5 => ?_)
      · exact zU_return d_Y_keepGood_45 rfl (by decide) (by decide) (⟨rfl, K1, hk1, by rcases hx with ⟨h, _⟩ | h; { exact absurd h (by omega) }; { exact ⟨h.2.1, hA1, h.2.2, hq⟩ }⟩)
      · refine zU_iload_n d_Y_keepGood_8 rfl ?_
        refine zU_sipush d_Y_keepGood_9 (by decide) ?_
        refine zU_icmp_gt 45 d_Y_keepGood_12 (by decide) (by omega) (by omega) (fun h12 => ?_) (fun h12 => ?_)
        · exfalso; rcases hx with ⟨_, h⟩ | ⟨h, _⟩ <;> omega
        · have hG1 : gRep g μ1 := gRep_congr hG (fun q h => hq q (by omega) (by omega) (by omega))
          refine zU_aload_n d_Y_keepGood_15 rfl ?_
          refine zU_callVi (p0 := 26) [] d_Y_keepGood_16 k_Y_107 rfl (by decide) rfl rfl (by decide) (Nat.le_of_ble_eq_true rfl) (fun l => m_Y_dropUnruly l μ1 hG1 hk1 (by rw [hq 27 (by decide) (by decide) (by decide)]; exact hU) (by rw [hq 1 (by decide) (by decide) (by decide)]; exact hC) hA1) (fun r16 μ16 h16 => ?_)
          obtain ⟨K2, hk2, hA2, hs2, hx16, hq16⟩ := h16
          have hG2 : gRep g μ16 := gRep_congr hG1 (fun q h => hq16 q (by omega))
          refine zU_istore_n d_Y_keepGood_19 (by decide) ?_
          refine zU.eqL (L' := [some (zp 26), some (zi (r16)), some (zi (i : Int))]) rfl ?_
          refine zU_aload_n d_Y_keepGood_20 rfl ?_
          refine zU_getR 15 d_Y_keepGood_21 f_Y_25 (by decide) rfl rfl rfl ?_
          refine zU_callVv (p0 := 15) [] d_Y_keepGood_24 k_Y_111 rfl (by decide) rfl rfl (by decide) (Nat.le_of_ble_eq_true rfl) (fun l => m_G_measure l μ16 (G := G) hG2 hk2 (by rw [hq16 18 (by decide), hq 18 (by decide) (by decide) (by decide)]; exact hM) hn hES) (fun μ24 h24 => ?_)
          obtain ⟨hD24, hq24⟩ := h24
          have hG3 : gRep g μ24 := gRep_congr hG2 (fun q h => hq24 q (by omega) (by omega))
          refine zU_aload_n d_Y_keepGood_27 rfl ?_
          refine zU_getR 15 d_Y_keepGood_28 f_Y_25 (by decide) rfl rfl rfl ?_
          refine zU_callVi (p0 := 15) [] d_Y_keepGood_31 k_Y_114 rfl (by decide) rfl rfl (by decide) (Nat.le_of_ble_eq_true rfl) (fun l => m_G_dropDeadEnds l μ24 hG3 (K := K2) (by rw [hq24 19 (by decide) (by decide)]; exact hk2) hn (fun k hk => by have := mDist_r (hD24 k hk); omega)) (fun r31 μ31 h31 => ?_)
          have hr31 := h31.1
          refine zU_if_eq 39 d_Y_keepGood_34 (by decide) (by rw [h31.1]; exact zBr _) (fun h34 => ?_) (fun h34 => ?_)
          · have h34' := h34
            rw [h31.1] at h34'
            have hq31 : ∀ q, q ≠ 19 → q ≠ 20 → q ≠ 25 → μ31 q = μ q := fun q q1 q2 q3 => by rw [h31.2.2 q q1, hq24 q q2 q3, hq16 q q1, hq q q1 q2 q3]
            refine zU_iinc d_Y_keepGood_39 rfl ?_
            refine zU.eqL (L' := [some (zp 26), some (zi (r16)), some (zi (((i + 1 : Nat) : Int)))]) (by first | rfl | exact congrArg (fun zz : Int => [some (zp 26), some (zi (r16)), some (zi zz)]) (show ((i : Int) + 1 : Int) = ((i + 1 : Nat) : Int) by omega)) ?_
            refine zU_goto 4 d_Y_keepGood_42 (by decide) ?_
            exact ih4 (d - 1) (by omega) (i + 1) r16 μ31 K2 (by omega) (fun j hj => by rw [h31.2.1 j hj]; have h9 := any_none (zB_zero.mp h34') hj; cases hk9 : K2 j; { rfl }; { rw [hk9] at h9; simp only [Bool.true_and] at h9; simp only [h9]; rfl }) hA2 (by rcases hx16 with ⟨h1, h2, h3⟩ | ⟨h1, h2⟩; { exact Or.inr ⟨h1, kGp hA2 (by rw [h2]; exact h3) (f := fun k => μ24 20 (k + 1)) hD24 (zB_zero.mp h34'), by rw [h31.2.2 20 (by decide)]; exact hD24⟩ }; { exact Or.inl ⟨h1, by have := cnt_less g.1.length hs2 h2; rcases hx with ⟨_, h⟩ | ⟨h, _⟩ <;> omega⟩ }) hq31
          · refine zU_iconst d_Y_keepGood_37 ?_
            refine zU_istore_n d_Y_keepGood_38 (by decide) ?_
            refine zU.eqL (L' := [some (zp 26), some (zi 1), some (zi (i : Int))]) rfl ?_
            have h34' := h34
            rw [h31.1] at h34'
            have hq31 : ∀ q, q ≠ 19 → q ≠ 20 → q ≠ 25 → μ31 q = μ q := fun q q1 q2 q3 => by rw [h31.2.2 q q1, hq24 q q2 q3, hq16 q q1, hq q q1 q2 q3]
            refine zU_iinc d_Y_keepGood_39 rfl ?_
            refine zU.eqL (L' := [some (zp 26), some (zi 1), some (zi (((i + 1 : Nat) : Int)))]) (by first | rfl | exact congrArg (fun zz : Int => [some (zp 26), some (zi 1), some (zi zz)]) (show ((i : Int) + 1 : Int) = ((i + 1 : Nat) : Int) by omega)) ?_
            refine zU_goto 4 d_Y_keepGood_42 (by decide) ?_
            exact ih4 (d - 1) (by omega) (i + 1) 1 μ31 (fun k => K2 k && !decide (μ24 20 (k + 1) = -1)) (by omega) h31.2.1 (kGd hG hA2 hD24) (Or.inl ⟨rfl, by obtain ⟨k, hk, h8⟩ := any_iff.mp (zB_nz.mp h34'); simp only [Bool.and_eq_true, decide_eq_true_eq] at h8; have := cnt_mono g.1.length hs2; have := cnt_less (f := fun k => K2 k && !decide (μ24 20 (k + 1) = -1)) (g := K2) g.1.length (fun k _ h => by simp only [Bool.and_eq_true] at h; exact h.1) ⟨k, hk, by simp [h8.2], h8.1⟩; clear hx16 h31; rcases hx with ⟨_, h⟩ | ⟨h, _⟩ <;> omega⟩) hq31
  refine zU.loose ?_
  exact hJ4 201 0 1 μ B (by omega) hK ⟨fun _ _ h => h, fun Z hZ => hZ.1⟩ (Or.inl ⟨rfl, by have := cnt_le B g.1.length; omega⟩) (fun _ _ _ _ => rfl)
