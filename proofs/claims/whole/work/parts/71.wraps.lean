set_option maxRecDepth 100000 in
set_option maxHeartbeats 4000000 in
theorem m_L_says (l : Launch) (μ : zM) {a : aT} {v : vT} (hW : cWor a v μ) {x : Int} (hx : -2147483648 ≤ x ∧ x ≤ 2147483647) {y : Int} (hy : -2147483648 ≤ y ∧ y ≤ 2147483647) :
    zC l y_L_says b_L_says 5 (some .int) [(0, 10, 13, 15), (0, 10, 17, 13)] 9 3 146 false [zp 0, zi x, zi y, zp 76] μ (zRi (fun t μ' => (∃ r, aSays a v x y t r ∧ (t = 0 → μ' 76 0 = r ∧ -2147483648 ≤ r ∧ r ≤ 2147483647)) ∧ ∀ q, q ≠ 76 → μ' q = μ q)) := by
  refine zC.of (own := n_L) (L := [some (zp 0), some (zi x), some (zi y), some (zp 76), none]) (by decide) rfl (by simp [zcat]) (Nat.le_of_ble_eq_true rfl) rfl (fun Γ => ?_)
  refine zU_aload_n d_L_says_0 rfl ?_
  refine zU_iconst d_L_says_1 ?_
  refine zU_aload_n d_L_says_2 rfl ?_
  refine zU_iload_n d_L_says_3 rfl ?_
  refine zU_iload_n d_L_says_4 rfl ?_
  refine zU_callVit (p0 := 0) [zi x, zi y] d_L_says_5 k_L_29 rfl (by decide) rfl rfl (by decide) (Nat.le_of_ble_eq_true rfl) (fun l => m_C_says l μ hW hx hy) (fun r5 μ5 h5 => ?_) (fun k μt ht => by { obtain ⟨hμt, hkt⟩ := ht; subst hμt; rcases hkt with ⟨hk, hn⟩ | ⟨hk, hn⟩; { subst hk; exact zcatchw (k := 1) (i := 0) (hpc := 13) (iL := 4) [1, 0] (by decide) cs_1 rfl (zall2 ⟨⟨by decide, by decide⟩, by decide, by decide, cl_L_15⟩ ⟨⟨by decide, by decide⟩, by decide, by decide, cl_L_13⟩) rfl rfl d_L_says_13 (by decide) (zU_iconst d_L_says_15 (zU_ireturn d_L_says_16 (Or.inl rfl) (by decide) (by decide) ⟨_, rfl, ⟨0, Or.inr (Or.inl ⟨rfl, hn⟩), fun h => absurd h (by decide)⟩, fun _ _ => rfl⟩)) }; { subst hk; exact zcatchw (k := 0) (i := 1) (hpc := 17) (iL := 4) [1, 0] (by decide) cs_0 rfl (zall2 ⟨⟨by decide, by decide⟩, by decide, by decide, cl_L_15⟩ ⟨⟨by decide, by decide⟩, by decide, by decide, cl_L_13⟩) rfl rfl d_L_says_17 (by decide) (zU_iconst d_L_says_19 (zU_ireturn d_L_says_20 (Or.inl rfl) (by decide) (by decide) ⟨_, rfl, ⟨0, Or.inr (Or.inr ⟨rfl, hn⟩), fun h => absurd h (by decide)⟩, fun _ _ => rfl⟩)) } })
  obtain ⟨hμc, hr⟩ := h5
  have hA : aSays a v x y 0 r5 := Or.inl ⟨rfl, hr⟩
  have hrr : -2147483648 ≤ r5 ∧ r5 ≤ 2147483647 := by { obtain ⟨N, K, M, p, s, k, e, b1, b2, b3, b4, b5, b6, b7⟩ := hr; rw [b7]; exact vd_rr _ _ }
  replace hμc := hμc.symm
  subst hμc
  refine zU_i2l d_L_says_8 (hrr) ?_
  refine zU_last d_L_says_9 (by decide) rfl (by decide) (by omega) ?_
  refine zU_goto 21 d_L_says_10 (by decide) ?_
  refine zU_iconst d_L_says_21 ?_
  exact zU_ireturn d_L_says_22 (Or.inl rfl) (by decide) (by decide) (⟨_, rfl, ⟨r5, hA, fun _ => ⟨by rw [zup_at]; simp, hrr⟩⟩, fun q hq => by rw [zup_ne _ _ _ hq]⟩)
set_option maxRecDepth 100000 in
set_option maxHeartbeats 4000000 in
theorem m_L_leads (l : Launch) (μ : zM) {a : aT} {v : vT} (hW : cWor a v μ) {x : Int} (hx : -2147483648 ≤ x ∧ x ≤ 2147483647) {y : Int} (hy : -2147483648 ≤ y ∧ y ≤ 2147483647) :
    zC l y_L_leads b_L_leads 5 (some .int) [(0, 10, 13, 15), (0, 10, 17, 13)] 9 3 146 false [zp 0, zi x, zi y, zp 76] μ (zRi (fun t μ' => (∃ r, aLeads a v x y t r ∧ (t = 0 → μ' 76 0 = r ∧ -2147483648 ≤ r ∧ r ≤ 2147483647)) ∧ ∀ q, q ≠ 76 → μ' q = μ q)) := by
  refine zC.of (own := n_L) (L := [some (zp 0), some (zi x), some (zi y), some (zp 76), none]) (by decide) rfl (by simp [zcat]) (Nat.le_of_ble_eq_true rfl) rfl (fun Γ => ?_)
  refine zU_aload_n d_L_leads_0 rfl ?_
  refine zU_iconst d_L_leads_1 ?_
  refine zU_aload_n d_L_leads_2 rfl ?_
  refine zU_iload_n d_L_leads_3 rfl ?_
  refine zU_iload_n d_L_leads_4 rfl ?_
  refine zU_callVit (p0 := 0) [zi x, zi y] d_L_leads_5 k_L_32 rfl (by decide) rfl rfl (by decide) (Nat.le_of_ble_eq_true rfl) (fun l => m_C_leads l μ hW hx hy) (fun r5 μ5 h5 => ?_) (fun k μt ht => by { obtain ⟨hμt, hkt⟩ := ht; subst hμt; rcases hkt with ⟨hk, hn⟩ | ⟨hk, hn⟩; { subst hk; exact zcatchw (k := 1) (i := 0) (hpc := 13) (iL := 4) [1, 0] (by decide) cs_1 rfl (zall2 ⟨⟨by decide, by decide⟩, by decide, by decide, cl_L_15⟩ ⟨⟨by decide, by decide⟩, by decide, by decide, cl_L_13⟩) rfl rfl d_L_leads_13 (by decide) (zU_iconst d_L_leads_15 (zU_ireturn d_L_leads_16 (Or.inl rfl) (by decide) (by decide) ⟨_, rfl, ⟨0, Or.inr (Or.inl ⟨rfl, hn⟩), fun h => absurd h (by decide)⟩, fun _ _ => rfl⟩)) }; { subst hk; exact zcatchw (k := 0) (i := 1) (hpc := 17) (iL := 4) [1, 0] (by decide) cs_0 rfl (zall2 ⟨⟨by decide, by decide⟩, by decide, by decide, cl_L_15⟩ ⟨⟨by decide, by decide⟩, by decide, by decide, cl_L_13⟩) rfl rfl d_L_leads_17 (by decide) (zU_iconst d_L_leads_19 (zU_ireturn d_L_leads_20 (Or.inl rfl) (by decide) (by decide) ⟨_, rfl, ⟨0, Or.inr (Or.inr ⟨rfl, hn⟩), fun h => absurd h (by decide)⟩, fun _ _ => rfl⟩)) } })
  obtain ⟨hμc, hr⟩ := h5
  have hA : aLeads a v x y 0 r5 := Or.inl ⟨rfl, hr⟩
  have hrr : -2147483648 ≤ r5 ∧ r5 ≤ 2147483647 := by { obtain ⟨N, K, M, p, s, k, e, b1, b2, b3, b4, b5, b6, b7⟩ := hr; subst b1; obtain ⟨c1, c2, c3⟩ := cWor_N hW; have h9 : (eO a N K M).length = M := c1.2.2.2.2.1.1; have h8 := sT_r b7 (by omega); omega }
  replace hμc := hμc.symm
  subst hμc
  refine zU_i2l d_L_leads_8 (hrr) ?_
  refine zU_last d_L_leads_9 (by decide) rfl (by decide) (by omega) ?_
  refine zU_goto 21 d_L_leads_10 (by decide) ?_
  refine zU_iconst d_L_leads_21 ?_
  exact zU_ireturn d_L_leads_22 (Or.inl rfl) (by decide) (by decide) (⟨_, rfl, ⟨r5, hA, fun _ => ⟨by rw [zup_at]; simp, hrr⟩⟩, fun q hq => by rw [zup_ne _ _ _ hq]⟩)
set_option maxRecDepth 100000 in
set_option maxHeartbeats 4000000 in
theorem m_L_part (l : Launch) (μ : zM) {a : aT} {v : vT} (hW : cWor a v μ) {x : Int} (hx : -2147483648 ≤ x ∧ x ≤ 2147483647) {y : Int} (hy : -2147483648 ≤ y ∧ y ≤ 2147483647) :
    zC l y_L_part b_L_part 5 (some .int) [(0, 10, 13, 15), (0, 10, 17, 13)] 8 3 124 false [zp 0, zi x, zi y, zp 76] μ (zRi (fun t μ' => (∃ r, aPart a v x y t r ∧ (t = 0 → μ' 76 0 = r ∧ -2147483648 ≤ r ∧ r ≤ 2147483647)) ∧ ∀ q, q ≠ 76 → μ' q = μ q)) := by
  refine zC.of (own := n_L) (L := [some (zp 0), some (zi x), some (zi y), some (zp 76), none]) (by decide) rfl (by simp [zcat]) (Nat.le_of_ble_eq_true rfl) rfl (fun Γ => ?_)
  refine zU_aload_n d_L_part_0 rfl ?_
  refine zU_iconst d_L_part_1 ?_
  refine zU_aload_n d_L_part_2 rfl ?_
  refine zU_iload_n d_L_part_3 rfl ?_
  refine zU_iload_n d_L_part_4 rfl ?_
  refine zU_callVit (p0 := 0) [zi x, zi y] d_L_part_5 k_L_35 rfl (by decide) rfl rfl (by decide) (Nat.le_of_ble_eq_true rfl) (fun l => m_C_part l μ hW hx hy) (fun r5 μ5 h5 => ?_) (fun k μt ht => by { obtain ⟨hμt, hkt⟩ := ht; subst hμt; rcases hkt with ⟨hk, hn⟩ | ⟨hk, hn⟩; { subst hk; exact zcatchw (k := 1) (i := 0) (hpc := 13) (iL := 4) [1, 0] (by decide) cs_1 rfl (zall2 ⟨⟨by decide, by decide⟩, by decide, by decide, cl_L_15⟩ ⟨⟨by decide, by decide⟩, by decide, by decide, cl_L_13⟩) rfl rfl d_L_part_13 (by decide) (zU_iconst d_L_part_15 (zU_ireturn d_L_part_16 (Or.inl rfl) (by decide) (by decide) ⟨_, rfl, ⟨0, Or.inr (Or.inl ⟨rfl, hn⟩), fun h => absurd h (by decide)⟩, fun _ _ => rfl⟩)) }; { subst hk; exact zcatchw (k := 0) (i := 1) (hpc := 17) (iL := 4) [1, 0] (by decide) cs_0 rfl (zall2 ⟨⟨by decide, by decide⟩, by decide, by decide, cl_L_15⟩ ⟨⟨by decide, by decide⟩, by decide, by decide, cl_L_13⟩) rfl rfl d_L_part_17 (by decide) (zU_iconst d_L_part_19 (zU_ireturn d_L_part_20 (Or.inl rfl) (by decide) (by decide) ⟨_, rfl, ⟨0, Or.inr (Or.inr ⟨rfl, hn⟩), fun h => absurd h (by decide)⟩, fun _ _ => rfl⟩)) } })
  obtain ⟨hμc, hr⟩ := h5
  have hA : aPart a v x y 0 r5 := Or.inl ⟨rfl, hr⟩
  have hrr : -2147483648 ≤ r5 ∧ r5 ≤ 2147483647 := by { obtain ⟨N, K, M, p, s, k, i, c, b1, b2, b3, b4, b5, b6, b7, b8⟩ := hr; have := dig_lt c i; omega }
  replace hμc := hμc.symm
  subst hμc
  refine zU_i2l d_L_part_8 (hrr) ?_
  refine zU_last d_L_part_9 (by decide) rfl (by decide) (by omega) ?_
  refine zU_goto 21 d_L_part_10 (by decide) ?_
  refine zU_iconst d_L_part_21 ?_
  exact zU_ireturn d_L_part_22 (Or.inl rfl) (by decide) (by decide) (⟨_, rfl, ⟨r5, hA, fun _ => ⟨by rw [zup_at]; simp, hrr⟩⟩, fun q hq => by rw [zup_ne _ _ _ hq]⟩)
set_option maxRecDepth 100000 in
set_option maxHeartbeats 4000000 in
theorem m_L_many (l : Launch) (μ : zM) {a : aT} {v : vT} (hW : cWor a v μ) {x : Int} (hx : -2147483648 ≤ x ∧ x ≤ 2147483647) :
    zC l y_L_many b_L_many 4 (some .int) [(0, 9, 12, 13), (0, 9, 15, 15)] 8 2 122 false [zp 0, zi x, zp 76] μ (zRi (fun t μ' => (∃ r, aMany v x t r ∧ (t = 0 → μ' 76 0 = r ∧ -2147483648 ≤ r ∧ r ≤ 2147483647)) ∧ ∀ q, q ≠ 76 → μ' q = μ q)) := by
  refine zC.of (own := n_L) (L := [some (zp 0), some (zi x), some (zp 76), none]) (by decide) rfl (by simp [zcat]) (Nat.le_of_ble_eq_true rfl) rfl (fun Γ => ?_)
  refine zU_aload_n d_L_many_0 rfl ?_
  refine zU_iconst d_L_many_1 ?_
  refine zU_aload_n d_L_many_2 rfl ?_
  refine zU_iload_n d_L_many_3 rfl ?_
  refine zU_callVit (p0 := 0) [zi x] d_L_many_4 k_L_38 rfl (by decide) rfl rfl (by decide) (Nat.le_of_ble_eq_true rfl) (fun l => m_C_many l μ hW hx) (fun r4 μ4 h4 => ?_) (fun k μt ht => by { obtain ⟨hμt, hkt⟩ := ht; subst hμt; rcases hkt with ⟨hk, hn⟩ | ⟨hk, hn⟩; { subst hk; exact zcatch (k := 0) (i := 0) (hpc := 12) (iL := 3) [0, 1] (by decide) cs_0 rfl (zall2 ⟨⟨by decide, by decide⟩, by decide, by decide, cl_L_13⟩ ⟨⟨by decide, by decide⟩, by decide, by decide, cl_L_15⟩) rfl rfl d_L_many_12 (by decide) (zU_iconst d_L_many_13 (zU_ireturn d_L_many_14 (Or.inl rfl) (by decide) (by decide) ⟨_, rfl, ⟨0, Or.inr (Or.inl ⟨rfl, hn⟩), fun h => absurd h (by decide)⟩, fun _ _ => rfl⟩)) }; { subst hk; exact zcatch (k := 1) (i := 1) (hpc := 15) (iL := 3) [0, 1] (by decide) cs_1 rfl (zall2 ⟨⟨by decide, by decide⟩, by decide, by decide, cl_L_13⟩ ⟨⟨by decide, by decide⟩, by decide, by decide, cl_L_15⟩) rfl rfl d_L_many_15 (by decide) (zU_iconst d_L_many_16 (zU_ireturn d_L_many_17 (Or.inl rfl) (by decide) (by decide) ⟨_, rfl, ⟨0, Or.inr (Or.inr ⟨rfl, hn⟩), fun h => absurd h (by decide)⟩, fun _ _ => rfl⟩)) } })
  obtain ⟨hμc, hr⟩ := h4
  have hA : aMany v x 0 r4 := Or.inl ⟨rfl, hr⟩
  have hrr : -2147483648 ≤ r4 ∧ r4 ≤ 2147483647 := by { obtain ⟨N, K, M, p, b1, b2⟩ := hr; subst b1; obtain ⟨c1, c2, c3⟩ := cWor_N hW; have := cnt_le K N; omega }
  replace hμc := hμc.symm
  subst hμc
  refine zU_i2l d_L_many_7 (hrr) ?_
  refine zU_last d_L_many_8 (by decide) rfl (by decide) (by omega) ?_
  refine zU_goto 18 d_L_many_9 (by decide) ?_
  refine zU_iconst d_L_many_18 ?_
  exact zU_ireturn d_L_many_19 (Or.inl rfl) (by decide) (by decide) (⟨_, rfl, ⟨r4, hA, fun _ => ⟨by rw [zup_at]; simp, hrr⟩⟩, fun q hq => by rw [zup_ne _ _ _ hq]⟩)
set_option maxRecDepth 100000 in
set_option maxHeartbeats 4000000 in
theorem m_L_why (l : Launch) (μ : zM) {a : aT} {v : vT} (hW : cWor a v μ)  :
    zC l y_L_why b_L_why 3 (some .int) [(0, 8, 11, 15)] 8 1 121 false [zp 0, zp 76] μ (zRi (fun t μ' => (∃ r, aWhy a v t r ∧ (t = 0 → μ' 76 0 = r ∧ -2147483648 ≤ r ∧ r ≤ 2147483647)) ∧ ∀ q, q ≠ 76 → μ' q = μ q)) := by
  refine zC.of (own := n_L) (L := [some (zp 0), some (zp 76), none]) (by decide) rfl (by simp [zcat]) (Nat.le_of_ble_eq_true rfl) rfl (fun Γ => ?_)
  refine zU_aload_n d_L_why_0 rfl ?_
  refine zU_iconst d_L_why_1 ?_
  refine zU_aload_n d_L_why_2 rfl ?_
  refine zU_callVit (p0 := 0) [] d_L_why_3 k_L_42 rfl (by decide) rfl rfl (by decide) (Nat.le_of_ble_eq_true rfl) (fun l => m_C_why l μ hW ) (fun r3 μ3 h3 => ?_) (fun k μt ht => by { obtain ⟨hμt, hkt⟩ := ht; subst hμt; obtain ⟨hk, hn⟩ := hkt; subst hk; exact zcatch (k := 1) (i := 0) (hpc := 11) (iL := 2) [1] (by decide) cs_1 rfl (zall1 ⟨⟨by decide, by decide⟩, by decide, by decide, cl_L_15⟩) rfl rfl d_L_why_11 (by decide) (zU_iconst d_L_why_12 (zU_ireturn d_L_why_13 (Or.inl rfl) (by decide) (by decide) ⟨_, rfl, ⟨0, Or.inr ⟨rfl, hn⟩, fun h => absurd h (by decide)⟩, fun _ _ => rfl⟩)) })
  obtain ⟨hμc, hr⟩ := h3
  have hA : aWhy a v 0 r3 := Or.inl ⟨rfl, hr⟩
  have hrr : -2147483648 ≤ r3 ∧ r3 ≤ 2147483647 := by { obtain ⟨N, K, M, p, b1, b2⟩ := hr; have := sWl_r b2; omega }
  replace hμc := hμc.symm
  subst hμc
  refine zU_i2l d_L_why_6 (hrr) ?_
  refine zU_last d_L_why_7 (by decide) rfl (by decide) (by omega) ?_
  refine zU_goto 14 d_L_why_8 (by decide) ?_
  refine zU_iconst d_L_why_14 ?_
  exact zU_ireturn d_L_why_15 (Or.inl rfl) (by decide) (by decide) (⟨_, rfl, ⟨r3, hA, fun _ => ⟨by rw [zup_at]; simp, hrr⟩⟩, fun q hq => by rw [zup_ne _ _ _ hq]⟩)
set_option maxRecDepth 100000 in
set_option maxHeartbeats 4000000 in
theorem m_L_whyEvent (l : Launch) (μ : zM) {a : aT} {v : vT} (hW : cWor a v μ) {x : Int} (hx : -2147483648 ≤ x ∧ x ≤ 2147483647) :
    zC l y_L_whyEvent b_L_whyEvent 4 (some .int) [(0, 9, 12, 15), (0, 9, 15, 49)] 8 2 122 false [zp 0, zi x, zp 76] μ (zRi (fun t μ' => (∃ r, aWhyE a v x t r ∧ (t = 0 → μ' 76 0 = r ∧ -2147483648 ≤ r ∧ r ≤ 2147483647)) ∧ ∀ q, q ≠ 76 → μ' q = μ q)) := by
  refine zC.of (own := n_L) (L := [some (zp 0), some (zi x), some (zp 76), none]) (by decide) rfl (by simp [zcat]) (Nat.le_of_ble_eq_true rfl) rfl (fun Γ => ?_)
  refine zU_aload_n d_L_whyEvent_0 rfl ?_
  refine zU_iconst d_L_whyEvent_1 ?_
  refine zU_aload_n d_L_whyEvent_2 rfl ?_
  refine zU_iload_n d_L_whyEvent_3 rfl ?_
  refine zU_callVit (p0 := 0) [zi x] d_L_whyEvent_4 k_L_46 rfl (by decide) rfl rfl (by decide) (Nat.le_of_ble_eq_true rfl) (fun l => m_C_whyEvent l μ hW hx) (fun r4 μ4 h4 => ?_) (fun k μt ht => by { obtain ⟨hμt, hkt⟩ := ht; subst hμt; rcases hkt with ⟨hk, hn⟩ | ⟨hk, hn⟩; { subst hk; exact zcatch (k := 1) (i := 0) (hpc := 12) (iL := 3) [1, 2] (by decide) cs_1 rfl (zall2 ⟨⟨by decide, by decide⟩, by decide, by decide, cl_L_15⟩ ⟨⟨by decide, by decide⟩, by decide, by decide, cl_L_49⟩) rfl rfl d_L_whyEvent_12 (by decide) (zU_iconst d_L_whyEvent_13 (zU_ireturn d_L_whyEvent_14 (Or.inl rfl) (by decide) (by decide) ⟨_, rfl, ⟨0, Or.inr (Or.inl ⟨rfl, hn⟩), fun h => absurd h (by decide)⟩, fun _ _ => rfl⟩)) }; { subst hk; exact zcatch (k := 2) (i := 1) (hpc := 15) (iL := 3) [1, 2] (by decide) cs_2 rfl (zall2 ⟨⟨by decide, by decide⟩, by decide, by decide, cl_L_15⟩ ⟨⟨by decide, by decide⟩, by decide, by decide, cl_L_49⟩) rfl rfl d_L_whyEvent_15 (by decide) (zU_iconst d_L_whyEvent_16 (zU_ireturn d_L_whyEvent_17 (Or.inl rfl) (by decide) (by decide) ⟨_, rfl, ⟨0, Or.inr (Or.inr ⟨rfl, hn⟩), fun h => absurd h (by decide)⟩, fun _ _ => rfl⟩)) } })
  obtain ⟨hμc, hr⟩ := h4
  have hA : aWhyE a v x 0 r4 := Or.inl ⟨rfl, hr⟩
  have hrr : -2147483648 ≤ r4 ∧ r4 ≤ 2147483647 := by { obtain ⟨N, K, M, p, k, i, b1, b2, b3, b4, b5, b6, y, b7, b8⟩ := hr; have := wB_12 _ _ _ y (List.mem_of_getElem? b7); omega }
  replace hμc := hμc.symm
  subst hμc
  refine zU_i2l d_L_whyEvent_7 (hrr) ?_
  refine zU_last d_L_whyEvent_8 (by decide) rfl (by decide) (by omega) ?_
  refine zU_goto 18 d_L_whyEvent_9 (by decide) ?_
  refine zU_iconst d_L_whyEvent_18 ?_
  exact zU_ireturn d_L_whyEvent_19 (Or.inl rfl) (by decide) (by decide) (⟨_, rfl, ⟨r4, hA, fun _ => ⟨by rw [zup_at]; simp, hrr⟩⟩, fun q hq => by rw [zup_ne _ _ _ hq]⟩)
set_option maxRecDepth 100000 in
set_option maxHeartbeats 4000000 in
theorem m_L_here (l : Launch) (μ : zM) {a : aT} {v : vT} (hW : cWor a v μ)  :
    zC l y_L_here b_L_here 3 (some .int) [(0, 8, 11, 15)] 8 1 121 false [zp 0, zp 76] μ (zRi (fun t μ' => (∃ r, aHere v t r ∧ (t = 0 → μ' 76 0 = r ∧ -2147483648 ≤ r ∧ r ≤ 2147483647)) ∧ ∀ q, q ≠ 76 → μ' q = μ q)) := by
  refine zC.of (own := n_L) (L := [some (zp 0), some (zp 76), none]) (by decide) rfl (by simp [zcat]) (Nat.le_of_ble_eq_true rfl) rfl (fun Γ => ?_)
  refine zU_aload_n d_L_here_0 rfl ?_
  refine zU_iconst d_L_here_1 ?_
  refine zU_aload_n d_L_here_2 rfl ?_
  refine zU_callVit (p0 := 0) [] d_L_here_3 k_L_60 rfl (by decide) rfl rfl (by decide) (Nat.le_of_ble_eq_true rfl) (fun l => m_C_here l μ hW ) (fun r3 μ3 h3 => ?_) (fun k μt ht => by { obtain ⟨hμt, hkt⟩ := ht; subst hμt; obtain ⟨hk, hn⟩ := hkt; subst hk; exact zcatch (k := 1) (i := 0) (hpc := 11) (iL := 2) [1] (by decide) cs_1 rfl (zall1 ⟨⟨by decide, by decide⟩, by decide, by decide, cl_L_15⟩) rfl rfl d_L_here_11 (by decide) (zU_iconst d_L_here_12 (zU_ireturn d_L_here_13 (Or.inl rfl) (by decide) (by decide) ⟨_, rfl, ⟨0, Or.inr ⟨rfl, hn⟩, fun h => absurd h (by decide)⟩, fun _ _ => rfl⟩)) })
  obtain ⟨hμc, hr⟩ := h3
  have hA : aHere v 0 r3 := Or.inl ⟨rfl, hr⟩
  have hrr : -2147483648 ≤ r3 ∧ r3 ≤ 2147483647 := by { obtain ⟨N, K, M, p, b1, b2, b3⟩ := hr; subst b1; obtain ⟨c1, c2, c3⟩ := cWor_N hW; omega }
  replace hμc := hμc.symm
  subst hμc
  refine zU_i2l d_L_here_6 (hrr) ?_
  refine zU_last d_L_here_7 (by decide) rfl (by decide) (by omega) ?_
  refine zU_goto 14 d_L_here_8 (by decide) ?_
  refine zU_iconst d_L_here_14 ?_
  exact zU_ireturn d_L_here_15 (Or.inl rfl) (by decide) (by decide) (⟨_, rfl, ⟨r3, hA, fun _ => ⟨by rw [zup_at]; simp, hrr⟩⟩, fun q hq => by rw [zup_ne _ _ _ hq]⟩)
set_option maxRecDepth 100000 in
set_option maxHeartbeats 4000000 in
theorem m_L_allowed (l : Launch) (μ : zM) {a : aT} {v : vT} (hW : cWor a v μ)  :
    zC l y_L_allowed b_L_allowed 3 (some .int) [(0, 8, 11, 15)] 8 1 123 false [zp 0, zp 76] μ (zRi (fun t μ' => (∃ r, aAllow a v t r ∧ (t = 0 → μ' 76 0 = r ∧ -2147483648 ≤ r ∧ r ≤ 2147483647)) ∧ ∀ q, q ≠ 76 → μ' q = μ q)) := by
  refine zC.of (own := n_L) (L := [some (zp 0), some (zp 76), none]) (by decide) rfl (by simp [zcat]) (Nat.le_of_ble_eq_true rfl) rfl (fun Γ => ?_)
  refine zU_aload_n d_L_allowed_0 rfl ?_
  refine zU_iconst d_L_allowed_1 ?_
  refine zU_aload_n d_L_allowed_2 rfl ?_
  refine zU_callVit (p0 := 0) [] d_L_allowed_3 k_L_63 rfl (by decide) rfl rfl (by decide) (Nat.le_of_ble_eq_true rfl) (fun l => m_C_allowed l μ hW ) (fun r3 μ3 h3 => ?_) (fun k μt ht => by { obtain ⟨hμt, hkt⟩ := ht; subst hμt; obtain ⟨hk, hn⟩ := hkt; subst hk; exact zcatch (k := 1) (i := 0) (hpc := 11) (iL := 2) [1] (by decide) cs_1 rfl (zall1 ⟨⟨by decide, by decide⟩, by decide, by decide, cl_L_15⟩) rfl rfl d_L_allowed_11 (by decide) (zU_iconst d_L_allowed_12 (zU_ireturn d_L_allowed_13 (Or.inl rfl) (by decide) (by decide) ⟨_, rfl, ⟨0, Or.inr ⟨rfl, hn⟩, fun h => absurd h (by decide)⟩, fun _ _ => rfl⟩)) })
  obtain ⟨hμc, hr⟩ := h3
  have hA : aAllow a v 0 r3 := Or.inl ⟨rfl, hr⟩
  have hrr : -2147483648 ≤ r3 ∧ r3 ≤ 2147483647 := by { obtain ⟨N, K, M, p, k, b1, b2, b3, b4⟩ := hr; have := bsum_lt (fun e => decide (ktg (gtg (eg a N)) K k e ≠ 0)) 12; omega }
  replace hμc := hμc.symm
  subst hμc
  refine zU_i2l d_L_allowed_6 (hrr) ?_
  refine zU_last d_L_allowed_7 (by decide) rfl (by decide) (by omega) ?_
  refine zU_goto 14 d_L_allowed_8 (by decide) ?_
  refine zU_iconst d_L_allowed_14 ?_
  exact zU_ireturn d_L_allowed_15 (Or.inl rfl) (by decide) (by decide) (⟨_, rfl, ⟨r3, hA, fun _ => ⟨by rw [zup_at]; simp, hrr⟩⟩, fun q hq => by rw [zup_ne _ _ _ hq]⟩)
set_option maxRecDepth 100000 in
set_option maxHeartbeats 4000000 in
theorem m_L_home (l : Launch) (μ : zM) {a : aT} {v : vT} (hW : cWor a v μ)  :
    zC l y_L_home b_L_home 3 (some .int) [(0, 8, 11, 15)] 8 1 121 false [zp 0, zp 76] μ (zRi (fun t μ' => (∃ r, aHome a v t r ∧ (t = 0 → μ' 76 0 = r ∧ -2147483648 ≤ r ∧ r ≤ 2147483647)) ∧ ∀ q, q ≠ 76 → μ' q = μ q)) := by
  refine zC.of (own := n_L) (L := [some (zp 0), some (zp 76), none]) (by decide) rfl (by simp [zcat]) (Nat.le_of_ble_eq_true rfl) rfl (fun Γ => ?_)
  refine zU_aload_n d_L_home_0 rfl ?_
  refine zU_iconst d_L_home_1 ?_
  refine zU_aload_n d_L_home_2 rfl ?_
  refine zU_callVit (p0 := 0) [] d_L_home_3 k_L_66 rfl (by decide) rfl rfl (by decide) (Nat.le_of_ble_eq_true rfl) (fun l => m_C_home l μ hW ) (fun r3 μ3 h3 => ?_) (fun k μt ht => by { obtain ⟨hμt, hkt⟩ := ht; subst hμt; obtain ⟨hk, hn⟩ := hkt; subst hk; exact zcatch (k := 1) (i := 0) (hpc := 11) (iL := 2) [1] (by decide) cs_1 rfl (zall1 ⟨⟨by decide, by decide⟩, by decide, by decide, cl_L_15⟩) rfl rfl d_L_home_11 (by decide) (zU_iconst d_L_home_12 (zU_ireturn d_L_home_13 (Or.inl rfl) (by decide) (by decide) ⟨_, rfl, ⟨0, Or.inr ⟨rfl, hn⟩, fun h => absurd h (by decide)⟩, fun _ _ => rfl⟩)) })
  obtain ⟨hμc, hr⟩ := h3
  have hA : aHome a v 0 r3 := Or.inl ⟨rfl, hr⟩
  have hrr : -2147483648 ≤ r3 ∧ r3 ≤ 2147483647 := by { obtain ⟨N, K, M, p, k, b1, b2, b3, b4⟩ := hr; have := mDist_r b4; omega }
  replace hμc := hμc.symm
  subst hμc
  refine zU_i2l d_L_home_6 (hrr) ?_
  refine zU_last d_L_home_7 (by decide) rfl (by decide) (by omega) ?_
  refine zU_goto 14 d_L_home_8 (by decide) ?_
  refine zU_iconst d_L_home_14 ?_
  exact zU_ireturn d_L_home_15 (Or.inl rfl) (by decide) (by decide) (⟨_, rfl, ⟨r3, hA, fun _ => ⟨by rw [zup_at]; simp, hrr⟩⟩, fun q hq => by rw [zup_ne _ _ _ hq]⟩)
