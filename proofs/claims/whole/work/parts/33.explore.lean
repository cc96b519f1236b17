theorem gMk_step {a : aT} {mem : Nat → Bool} {L : List Nat} {k c : Nat} {μ : zM} {r : Int} (h : gMk a mem L k μ) (hck : L[k]? = some c) (hr : zmask 12 r (aMay a c)) :
    gMk a mem L (k + 1) (zup (zup (zup μ 18 (k + 1) (zB (aGoal a mem c))) 19 (k + 1) (zB (!aBad a mem c))) 27 (k + 1) r) := by
  intro j d hj hd
  by_cases hjk : j = k
  · subst hjk
    rw [hck] at hd
    cases hd
    refine ⟨by simp [zup_at], by simp [zup_at], by simp [zup_at]; exact hr⟩
  · obtain ⟨h1, h2, h3⟩ := h j d (by omega) hd
    have : ¬ (j + 1 = k + 1) := by omega
    refine ⟨by simp [zup_at, hjk]; exact h1, by simp [zup_at, hjk]; exact h2, by simp [zup_at, hjk]; exact h3⟩
theorem gMk_grow {a : aT} {mem : Nat → Bool} {nxt : Nat → Nat → Option Nat} {c0 t s k : Nat} {μ : zM} (h : gMk a mem (gAt nxt c0 t).1 k μ) (hts : t ≤ s) (hk : k ≤ (gAt nxt c0 t).1.length) : gMk a mem (gAt nxt c0 s).1 k μ := by
  intro j c hj hc
  have h1 : (gAt nxt c0 t).1[j]? = some ((gAt nxt c0 t).1[j]'(by omega)) := List.getElem?_eq_getElem (by omega)
  have h2 := gAt_get hts h1
  rw [hc] at h2
  cases h2
  exact h j _ hj h1
theorem gAt_next (nxt : Nat → Nat → Option Nat) (c0 : Nat) {k e : Nat} (he : e < 12) : gAt nxt c0 (12 * k + (e + 1)) = gStep nxt (gAt nxt c0 (12 * k + e)) k e := by
  show gStep nxt (gAt nxt c0 (12 * k + e)) ((12 * k + e) / 12) ((12 * k + e) % 12) = _
  rw [show (12 * k + e) / 12 = k by omega, show (12 * k + e) % 12 = e by omega]
/-- what a link does to the graph that is being explored -/
theorem gLinked {nxt : Nat → Nat → Option Nat} {c0 k e c d : Nat} {μ μ' : zM} {r : Int} (he : e < 12) (hG : gRep (gAt nxt c0 (12 * k + e)) μ) (hk : (gAt nxt c0 (12 * k + e)).1[k]? = some c) (hn : nxt c e = some d)
    (h : (∃ j : Nat, (gAt nxt c0 (12 * k + e)).1[j]? = some d ∧ r = ((j + 1 : Nat) : Int) ∧ gRep ((gAt nxt c0 (12 * k + e)).1, (gAt nxt c0 (12 * k + e)).2.1 ++ [(12 * (k + 1) + e, j + 1)], (gAt nxt c0 (12 * k + e)).2.2) μ') ∨
      (d ∉ (gAt nxt c0 (12 * k + e)).1 ∧ (gAt nxt c0 (12 * k + e)).1.length < 200 ∧ r = (((gAt nxt c0 (12 * k + e)).1.length + 1 : Nat) : Int) ∧ gRep ((gAt nxt c0 (12 * k + e)).1 ++ [d], (gAt nxt c0 (12 * k + e)).2.1 ++ [(12 * (k + 1) + e, (gAt nxt c0 (12 * k + e)).1.length + 1)], (gAt nxt c0 (12 * k + e)).2.2 ++ [12 * (k + 1) + e]) μ') ∨
      (d ∉ (gAt nxt c0 (12 * k + e)).1 ∧ (gAt nxt c0 (12 * k + e)).1.length = 200 ∧ r = 0 ∧ μ' = μ)) :
    (¬ r = 0 ∧ gRep (gAt nxt c0 (12 * k + (e + 1))) μ') ∨ (r = 0 ∧ gMany nxt c0 ∧ μ' = μ) := by
  rw [gAt_next nxt c0 he]
  have hnd := fun (i j : Nat) (hi : (gAt nxt c0 (12 * k + e)).1[i]? = some d) (hj : (gAt nxt c0 (12 * k + e)).1[j]? = some d) => gBase_nodup hG.1 hi hj
  have hnext := gAt_next nxt c0 (k := k) he
  generalize hg : gAt nxt c0 (12 * k + e) = g at *
  obtain ⟨L, ES, FB⟩ := g
  rcases h with ⟨j, h1, h2, h3⟩ | ⟨h1, h2, h3, h4⟩ | ⟨h1, h2, h3, h4⟩
  · refine Or.inl ⟨by omega, ?_⟩
    rw [gStep_old hk hn h1 (fun i hi => hnd i j hi h1)]
    exact h3
  · refine Or.inl ⟨by omega, ?_⟩
    rw [gStep_new hk hn h1]
    exact h4
  · refine Or.inr ⟨h3, ⟨12 * k + (e + 1), ?_⟩, h4⟩
    rw [hnext, gStep_new hk hn h1]
    simp only [List.length_append, List.length_cons, List.length_nil] at h2 ⊢
    omega
set_option maxRecDepth 100000 in
set_option maxHeartbeats 4000000 in
theorem m_Y_exploreFrom (l : Launch) (μ : zM) {a : aT} (ha : aOk a) (hc : cRep a μ) {m : Int} {mem : Nat → Bool} (hm : zmask 4 m mem) (hpm : ∀ i, i < aN a → aP a i = true → mem i = true) {c0 k : Nat} (h0 : aVal a mem c0) (hG : gRep (gAt (nxtA a mem) c0 (12 * k)) μ) (hk : k < (gAt (nxtA a mem) c0 (12 * k)).1.length) (hMk : gMk a mem (gAt (nxtA a mem) c0 (12 * k)).1 k μ) :
    zC l y_Y_exploreFrom b_Y_exploreFrom 6 (some .boolean) [] 2 0 48 false [zp 26, zi ((k + 1 : Nat) : Int), zi m] μ (zRi (fun r μ' => ((r = 1 ∧ gRep (gAt (nxtA a mem) c0 (12 * (k + 1))) μ' ∧ gMk a mem (gAt (nxtA a mem) c0 (12 * (k + 1))).1 (k + 1) μ') ∨ (r = 0 ∧ gMany (nxtA a mem) c0 ∧ ∃ L', gBase L' μ')) ∧ ∀ q, (q < 15 ∨ 25 ≤ q) → q ≠ 27 → μ' q = μ q)) := by
  refine zC.of (own := n_Y) (L := [some (zp 26), some (zi ((k + 1 : Nat) : Int)), some (zi m), none, none, none]) (by decide) rfl (by simp [zcat]) (Nat.le_of_ble_eq_true rfl) rfl (fun Γ => ?_)
  obtain ⟨c, hck⟩ : ∃ c, (gAt (nxtA a mem) c0 (12 * k)).1[k]? = some c := ⟨_, List.getElem?_eq_getElem hk⟩
  have hv := gAt_val ha h0 _ c (List.mem_of_getElem? hck)
  have hvp := aVal_mono hv hpm
  have hb := hG.1.2.2.1 k c hck
  have hk200 := hG.1.2.1
  have hcM1 : cRep a (zup μ 18 (k + 1) (zB (aGoal a mem c))) := cRep_congr hc (fun q hq => by rw [zup_ne _ _ _ (by omega)]) ha
  have hcM2 : cRep a (zup (zup μ 18 (k + 1) (zB (aGoal a mem c))) 19 (k + 1) (zB (!aBad a mem c))) := cRep_congr hc (fun q hq => by rw [zup_ne _ _ _ (by omega), zup_ne _ _ _ (by omega)]) ha
  refine zU_aload_n d_Y_exploreFrom_0 rfl ?_
  refine zU_getR 15 d_Y_exploreFrom_1 f_Y_25 (by decide) rfl rfl rfl ?_
  refine zU_getR 17 d_Y_exploreFrom_4 f_Y_75 (by decide) rfl rfl rfl ?_
  refine zU_iload_n d_Y_exploreFrom_7 rfl ?_
  refine zU_iald (v := (c : Int)) d_Y_exploreFrom_8 (by decide) rfl (by decide) (by omega) (hb.2.1) ?_
  refine zU_istore_n d_Y_exploreFrom_9 (by decide) ?_
  refine zU.eqL (L' := [some (zp 26), some (zi ((k + 1 : Nat) : Int)), some (zi m), some (zi ((c : Int))), none, none]) rfl ?_
  refine zU_aload_n d_Y_exploreFrom_10 rfl ?_
  refine zU_getR 15 d_Y_exploreFrom_11 f_Y_25 (by decide) rfl rfl rfl ?_
  refine zU_getR 18 d_Y_exploreFrom_14 f_Y_78 (by decide) rfl rfl rfl ?_
  refine zU_iload_n d_Y_exploreFrom_17 rfl ?_
  refine zU_aload_n d_Y_exploreFrom_18 rfl ?_
  refine zU_getR 1 d_Y_exploreFrom_19 f_Y_21 (by decide) rfl rfl rfl ?_
  refine zU_iload_n d_Y_exploreFrom_22 rfl ?_
  refine zU_iload_n d_Y_exploreFrom_23 rfl ?_
  refine zU_callVi (p0 := 1) [zi ((c : Int)), zi m] d_Y_exploreFrom_24 k_Y_82 rfl (by decide) rfl rfl (by decide) (Nat.le_of_ble_eq_true rfl) (fun l => m_A_isMarked l μ ha hc hm hv) (fun r24 μ24 h24 => ?_)
  obtain ⟨hμ24, rfl⟩ := h24
  replace hμ24 := hμ24.symm
  subst hμ24
  refine zU_zast d_Y_exploreFrom_27 (by decide) rfl (by decide) (by omega) (zB_or _) ?_
  refine zU.eqM (μ' := (zup μ 18 (k + 1) (zB (aGoal a mem c)))) rfl ?_
  refine zU_aload_n d_Y_exploreFrom_28 rfl ?_
  refine zU_getR 15 d_Y_exploreFrom_29 f_Y_25 (by decide) rfl rfl rfl ?_
  refine zU_getR 19 d_Y_exploreFrom_32 f_Y_85 (by decide) rfl rfl rfl ?_
  refine zU_iload_n d_Y_exploreFrom_35 rfl ?_
  refine zU_aload_n d_Y_exploreFrom_36 rfl ?_
  refine zU_getR 1 d_Y_exploreFrom_37 f_Y_21 (by decide) rfl rfl rfl ?_
  refine zU_iload_n d_Y_exploreFrom_40 rfl ?_
  refine zU_iload_n d_Y_exploreFrom_41 rfl ?_
  refine zU_callVi (p0 := 1) [zi ((c : Int)), zi m] d_Y_exploreFrom_42 k_Y_88 rfl (by decide) rfl rfl (by decide) (Nat.le_of_ble_eq_true rfl) (fun l => m_A_isForbidden l (zup μ 18 (k + 1) (zB (aGoal a mem c))) ha hcM1 hm hv) (fun r42 μ42 h42 => ?_)
  obtain ⟨hμ42, rfl⟩ := h42
  replace hμ42 := hμ42.symm
  subst hμ42
  have hJ54 : zU Γ b_Y_exploreFrom n_Y 6 (some .boolean) [] (zRm 2 0 48) 0 0 (zFin Γ 0 false (zRi (fun r μ' => ((r = 1 ∧ gRep (gAt (nxtA a mem) c0 (12 * (k + 1))) μ' ∧ gMk a mem (gAt (nxtA a mem) c0 (12 * (k + 1))).1 (k + 1) μ') ∨ (r = 0 ∧ gMany (nxtA a mem) c0 ∧ ∃ L', gBase L' μ')) ∧ ∀ q, (q < 15 ∨ 25 ≤ q) → q ≠ 27 → μ' q = μ q))) false 0 (zup (zup μ 18 (k + 1) (zB (aGoal a mem c))) 19 (k + 1) (zB (!aBad a mem c))) 54 [some (zp 26), some (zi ((k + 1 : Nat) : Int)), some (zi m), some (zi (c : Int)), none, none] [] := by
    refine zU_aload_n d_Y_exploreFrom_54 rfl ?_
    refine zU_getR 27 d_Y_exploreFrom_55 f_Y_9 (by decide) rfl rfl rfl ?_
    refine zU_iload_n d_Y_exploreFrom_58 rfl ?_
    refine zU_aload_n d_Y_exploreFrom_59 rfl ?_
    refine zU_getR 1 d_Y_exploreFrom_60 f_Y_21 (by decide) rfl rfl rfl ?_
    refine zU_iload_n d_Y_exploreFrom_63 rfl ?_
    refine zU_callVi (p0 := 1) [zi (c : Int)] d_Y_exploreFrom_64 k_Y_91 rfl (by decide) rfl rfl (by decide) (Nat.le_of_ble_eq_true rfl) (fun l => m_A_eventsOfPlants l (zup (zup μ 18 (k + 1) (zB (aGoal a mem c))) 19 (k + 1) (zB (!aBad a mem c))) ha hcM2 hvp) (fun r64 μ64 h64 => ?_)
    obtain ⟨hμ64, hr64, hb64⟩ := h64
    subst hμ64
    refine zU_iast d_Y_exploreFrom_67 (by decide) rfl (by decide) (by omega) ?_
    obtain ⟨μ3, hμ3⟩ : ∃ μ3, μ3 = (zup (zup (zup μ 18 (k + 1) (zB (aGoal a mem c))) 19 (k + 1) (zB (!aBad a mem c))) 27 (k + 1) r64) := ⟨_, rfl⟩
    refine zU.eqM (μ' := μ3) hμ3.symm ?_
    have hq3 : ∀ q, q ≠ 18 → q ≠ 19 → q ≠ 27 → μ3 q = μ q := fun q q1 q2 q3 => by rw [hμ3, zup_ne _ _ _ q3, zup_ne _ _ _ q2, zup_ne _ _ _ q1]
    have hc3 : cRep a μ3 := cRep_congr hc (fun q hq => hq3 q (by omega) (by omega) (by omega)) ha
    have hG3 : gRep (gAt (nxtA a mem) c0 (12 * k)) μ3 := gRep_congr hG (fun q hq => hq3 q (by omega) (by omega) (by omega))
    have hM3 : gMk a mem (gAt (nxtA a mem) c0 (12 * k)).1 (k + 1) μ3 := by rw [hμ3]; exact gMk_step hMk hck ⟨hr64, hb64⟩
    refine zU_aload_n d_Y_exploreFrom_68 rfl ?_
    refine zU_getR 27 d_Y_exploreFrom_69 f_Y_9 (by decide) rfl rfl rfl ?_
    refine zU_iload_n d_Y_exploreFrom_72 rfl ?_
    refine zU_iald (v := r64) d_Y_exploreFrom_73 (by decide) rfl (by decide) (by omega) (by rw [hμ3]; simp [zup_at]) ?_
    refine zU_aload_n d_Y_exploreFrom_74 rfl ?_
    refine zU_getR 1 d_Y_exploreFrom_75 f_Y_21 (by decide) rfl rfl rfl ?_
    refine zU_iload_n d_Y_exploreFrom_78 rfl ?_
    refine zU_iload_n d_Y_exploreFrom_79 rfl ?_
    refine zU_callVi (p0 := 1) [zi (c : Int), zi m] d_Y_exploreFrom_80 k_Y_93 rfl (by decide) rfl rfl (by decide) (Nat.le_of_ble_eq_true rfl) (fun l => m_A_eventsNotStopped l μ3 ha hc3 hm hv) (fun r80 μ80 h80 => ?_)
    obtain ⟨hμ80, hr80, hb80⟩ := h80
    replace hμ80 := hμ80.symm
    subst hμ80
    have hbx : ∀ e, e < 12 → zbt (zand r64 r80) e = (aMay a c e && aFree a mem c e) := fun e he => by rw [zbt_and, hb64 e he, hb80 e he]
    refine zU_iand d_Y_exploreFrom_83 ?_
    refine zU_istore d_Y_exploreFrom_84 (by decide) ?_
    refine zU.eqL (L' := [some (zp 26), some (zi ((k + 1 : Nat) : Int)), some (zi m), some (zi (c : Int)), some (zi (zand (r64) (r80))), none]) rfl ?_
    refine zU_iconst d_Y_exploreFrom_86 ?_
    refine zU_istore d_Y_exploreFrom_87 (by decide) ?_
    refine zU.eqL (L' := [some (zp 26), some (zi ((k + 1 : Nat) : Int)), some (zi m), some (zi (c : Int)), some (zi (zand (r64) (r80))), some (zi 0)]) rfl ?_
    have hJ89 : ∀ (d : Nat) (e : Nat) (μ4 : zM), e + d = 12 → gRep (gAt (nxtA a mem) c0 (12 * k + e)) μ4 → (∀ q, q ≠ 15 → q ≠ 16 → q ≠ 17 → q ≠ 21 → q ≠ 22 → q ≠ 23 → q ≠ 24 → μ4 q = μ3 q) → zU Γ b_Y_exploreFrom n_Y 6 (some .boolean) [] (zRm 2 0 48) 0 0 (zFin Γ 0 false (zRi (fun r μ' => ((r = 1 ∧ gRep (gAt (nxtA a mem) c0 (12 * (k + 1))) μ' ∧ gMk a mem (gAt (nxtA a mem) c0 (12 * (k + 1))).1 (k + 1) μ') ∨ (r = 0 ∧ gMany (nxtA a mem) c0 ∧ ∃ L', gBase L' μ')) ∧ ∀ q, (q < 15 ∨ 25 ≤ q) → q ≠ 27 → μ' q = μ q))) false 0 μ4 89 [some (zp 26), some (zi ((k + 1 : Nat) : Int)), some (zi m), some (zi (c : Int)), some (zi (zand r64 r80)), some (zi (e : Int))] [] := by
      intro d
      induction d using Nat.strongRecOn with
      | _ d ih89 =>
        intro e μ4 hd hG4 hq4
        refine zU_iload d_Y_exploreFrom_89 rfl ?_
        refine zU_bipush d_Y_exploreFrom_91 (by decide) ?_
        refine zU_icmp_ge 138 d_Y_exploreFrom_93 (by decide) (by omega) (by omega) (fun h93 => ?_) (fun h93 => ?_)
        · refine zU_iconst d_Y_exploreFrom_138 ?_
          exact zU_ireturn d_Y_exploreFrom_139 (Or.inr ⟨rfl, by omega⟩) (by decide) (by decide) (⟨_, rfl, Or.inl ⟨rfl, by have h9 : 12 * (k + 1) = 12 * k + e := (by omega); rw [h9]; exact hG4, gMk_grow (gMk_congr hM3 (hq4 18 (by decide) (by decide) (by decide) (by decide) (by decide) (by decide) (by decide)) (hq4 19 (by decide) (by decide) (by decide) (by decide) (by decide) (by decide) (by decide)) (hq4 27 (by decide) (by decide) (by decide) (by decide) (by decide) (by decide) (by decide))) (by omega) hk⟩, fun q hq hq27 => by rw [hq4 q (by omega) (by omega) (by omega) (by omega) (by omega) (by omega) (by omega), hq3 q (by omega) (by omega) hq27]⟩)
        · have he : e < 12 := by omega
          have hck4 := gAt_get (show 12 * k ≤ 12 * k + e by omega) hck
          have hkl4 := (List.getElem?_eq_some_iff.mp hck4).1
          have hc4 : cRep a μ4 := cRep_congr hc3 (fun q hq => hq4 q (by omega) (by omega) (by omega) (by omega) (by omega) (by omega) (by omega)) ha
          refine zU_iload d_Y_exploreFrom_96 rfl ?_
          refine zU_iload d_Y_exploreFrom_98 rfl ?_
          refine zU_callSi [zi (zand r64 r80), zi (e : Int)] d_Y_exploreFrom_100 k_Y_97 rfl (by decide) (Nat.le_of_ble_eq_true rfl) (fun l => m_C_hasBit l μ4 _ e (zand_r _ _) (by omega)) (fun r100 μ100 h100 => ?_)
          obtain ⟨hμ100, rfl⟩ := h100
          replace hμ100 := hμ100.symm
          subst hμ100
          refine zU_if_eq 132 d_Y_exploreFrom_103 (by decide) (zBr _) (fun h103 => ?_) (fun h103 => ?_)
          · refine zU_iinc d_Y_exploreFrom_132 rfl ?_
            refine zU.eqL (L' := [some (zp 26), some (zi ((k + 1 : Nat) : Int)), some (zi m), some (zi (c : Int)), some (zi (zand r64 r80)), some (zi (((e + 1 : Nat) : Int)))]) (by first | rfl | (show _ = _; simp only [List.set]; congr 3; omega)) ?_
            refine zU_goto 89 d_Y_exploreFrom_135 (by decide) ?_
            exact ih89 (d - 1) (by omega) (e + 1) μ4 (by omega) (by rw [gAt_next (nxtA a mem) c0 he, gStep_none hck4 (by unfold nxtA; rw [← hbx e he, zB_zero.mp h103]; rfl)]; exact hG4) hq4
          · have hnx := zB_nz.mp h103
            rw [hbx e he, Bool.and_eq_true] at hnx
            have hnxt : nxtA a mem c e = some (cod (aStep a mem c e)) := by unfold nxtA; rw [hnx.1, hnx.2]; rfl
            have hd4 := (aVal_step ha hv he hnx.2).1
            refine zU_aload_n d_Y_exploreFrom_106 rfl ?_
            refine zU_getR 15 d_Y_exploreFrom_107 f_Y_25 (by decide) rfl rfl rfl ?_
            refine zU_iload_n d_Y_exploreFrom_110 rfl ?_
            refine zU_iload d_Y_exploreFrom_111 rfl ?_
            refine zU_aload_n d_Y_exploreFrom_113 rfl ?_
            refine zU_getR 1 d_Y_exploreFrom_114 f_Y_21 (by decide) rfl rfl rfl ?_
            refine zU_iload_n d_Y_exploreFrom_117 rfl ?_
            refine zU_iload d_Y_exploreFrom_118 rfl ?_
            refine zU_iload_n d_Y_exploreFrom_120 rfl ?_
            refine zU_callVi (p0 := 1) [zi (c : Int), zi (e : Int), zi m] d_Y_exploreFrom_121 k_Y_100 rfl (by decide) rfl rfl (by decide) (Nat.le_of_ble_eq_true rfl) (fun l => m_A_step l μ4 ha hc4 hm hv he (fun i hi hmi hhi => by
            have h9 := all_iff.mp hnx.2 i hi
            simp only [hmi, hhi, Bool.not_true, Bool.false_or, decide_eq_true_eq] at h9
            exact h9)) (fun r121 μ121 h121 => ?_)
            obtain ⟨hμ121, hr121⟩ := h121
            subst hr121
            replace hμ121 := hμ121.symm
            subst hμ121
            refine zU_callVi (p0 := 15) [zi ((k + 1 : Nat) : Int), zi (e : Int), zi (((cod (aStep a mem c e) : Nat) : Int))] d_Y_exploreFrom_124 k_Y_104 rfl (by decide) rfl rfl (by decide) (Nat.le_of_ble_eq_true rfl) (fun l => m_G_link l μ4 (L := (gAt (nxtA a mem) c0 (12 * k + e)).1) (ES := (gAt (nxtA a mem) c0 (12 * k + e)).2.1) (FB := (gAt (nxtA a mem) c0 (12 * k + e)).2.2) (f := k + 1) (e := e) (c := cod (aStep a mem c e)) hG4 ⟨by omega, by omega⟩ he hd4 (fun q hq => by have := gAt_keys (nxtA a mem) c0 (12 * k + e) q hq; omega)) (fun r124 μ124 h124 => ?_)
            have hl124 := gLinked he hG4 hck4 hnxt h124.1
            have hr124 : -2147483648 ≤ r124 ∧ r124 ≤ 2147483647 := by
              have h9 := hG4.1.2.1
              rcases h124.1 with ⟨j, hj, hr, _⟩ | ⟨_, hl, hr, _⟩ | ⟨_, _, hr, _⟩
              · have := (List.getElem?_eq_some_iff.mp hj).1
                omega
              · omega
              · omega
            refine zU_if_ne 132 d_Y_exploreFrom_127 (by decide) (hr124) (fun h127 => ?_) (fun h127 => ?_)
            · refine zU_iinc d_Y_exploreFrom_132 rfl ?_
              refine zU.eqL (L' := [some (zp 26), some (zi ((k + 1 : Nat) : Int)), some (zi m), some (zi (c : Int)), some (zi (zand r64 r80)), some (zi (((e + 1 : Nat) : Int)))]) (by first | rfl | (show _ = _; simp only [List.set]; congr 3; omega)) ?_
              refine zU_goto 89 d_Y_exploreFrom_135 (by decide) ?_
              exact ih89 (d - 1) (by omega) (e + 1) _ (by omega) (by rcases hl124 with h | h; exact h.2; exact absurd h.1 h127) (fun q q1 q2 q3 q4 q5 q6 q7 => by rw [h124.2 q q1 q2 q3 q4 q5 q6 q7]; exact hq4 q q1 q2 q3 q4 q5 q6 q7)
            · refine zU_iconst d_Y_exploreFrom_130 ?_
              exact zU_ireturn d_Y_exploreFrom_131 (Or.inr ⟨rfl, by omega⟩) (by decide) (by decide) (⟨_, rfl, Or.inr ⟨rfl, by rcases hl124 with h | h; exact absurd h127 h.1; exact h.2.1, (gAt (nxtA a mem) c0 (12 * k + e)).1, by rcases hl124 with h | h; exact absurd h127 h.1; rw [h.2.2]; exact hG4.1⟩, fun q hq hq27 => by rw [h124.2 q (by omega) (by omega) (by omega) (by omega) (by omega) (by omega) (by omega), hq4 q (by omega) (by omega) (by omega) (by omega) (by omega) (by omega) (by omega), hq3 q (by omega) (by omega) hq27]⟩)
    exact hJ89 12 0 μ3 (by omega) hG3 (fun _ _ _ _ _ _ _ _ => rfl)
  refine zU_if_ne 52 d_Y_exploreFrom_45 (by decide) (zBr _) (fun h45 => ?_) (fun h45 => ?_)
  · refine zU_iconst d_Y_exploreFrom_52 ?_
    refine zU_zast d_Y_exploreFrom_53 (by decide) rfl (by decide) (by omega) (by omega) ?_
    refine zU.eqM (μ' := (zup (zup μ 18 (k + 1) (zB (aGoal a mem c))) 19 (k + 1) (zB (!aBad a mem c)))) (by rw [zB_nz.mp h45]; rfl) ?_
    exact hJ54 
  · refine zU_iconst d_Y_exploreFrom_48 ?_
    refine zU_goto 53 d_Y_exploreFrom_49 (by decide) ?_
    refine zU_zast d_Y_exploreFrom_53 (by decide) rfl (by decide) (by omega) (by omega) ?_
    refine zU.eqM (μ' := (zup (zup μ 18 (k + 1) (zB (aGoal a mem c))) 19 (k + 1) (zB (!aBad a mem c)))) (by rw [zB_zero.mp h45]; rfl) ?_
    exact hJ54 
set_option maxRecDepth 100000 in
set_option maxHeartbeats 4000000 in
theorem m_Y_explore (l : Launch) (μ : zM) {a : aT} (ha : aOk a) (hc : cRep a μ) {m : Int} {mem : Nat → Bool} (hm : zmask 4 m mem) (hpm : ∀ i, i < aN a → aP a i = true → mem i = true) {L : List Nat} (hB : gBase L μ) (hI : ∀ i, i < aN a → mem i = true → 0 ≤ aI a i) :
    zC l y_Y_explore b_Y_explore 3 (some .boolean) [] 3 0 73 false [zp 26, zi m] μ (zRi (fun r μ' => ((r = 1 ∧ ∃ N, gFin (nxtA a mem) (cod (aFirst a mem)) N ∧ N ≤ 200 ∧ gRep (gAt (nxtA a mem) (cod (aFirst a mem)) (12 * N)) μ' ∧ gMk a mem (gAt (nxtA a mem) (cod (aFirst a mem)) (12 * N)).1 N μ') ∨ (r = 0 ∧ gMany (nxtA a mem) (cod (aFirst a mem)) ∧ ∃ L', gBase L' μ')) ∧ ∀ q, (q < 15 ∨ 25 ≤ q) → q ≠ 27 → μ' q = μ q)) := by
  refine zC.of (own := n_Y) (L := [some (zp 26), some (zi m), none]) (by decide) rfl (by simp [zcat]) (Nat.le_of_ble_eq_true rfl) rfl (fun Γ => ?_)
  have h0 := aVal_first ha hI
  refine zU_aload_n d_Y_explore_0 rfl ?_
  refine zU_getR 15 d_Y_explore_1 f_Y_25 (by decide) rfl rfl rfl ?_
  refine zU_aload_n d_Y_explore_4 rfl ?_
  refine zU_getR 1 d_Y_explore_5 f_Y_21 (by decide) rfl rfl rfl ?_
  refine zU_iload_n d_Y_explore_8 rfl ?_
  refine zU_callVi (p0 := 1) [zi m] d_Y_explore_9 k_Y_61 rfl (by decide) rfl rfl (by decide) (Nat.le_of_ble_eq_true rfl) (fun l => m_A_firstCode l μ ha hc hm hI) (fun r9 μ9 h9 => ?_)
  obtain ⟨hμ9, rfl⟩ := h9
  replace hμ9 := hμ9.symm
  subst hμ9
  refine zU_callVv (p0 := 15) [zi (((cod (aFirst a mem) : Nat) : Int))] d_Y_explore_12 k_Y_67 rfl (by decide) rfl rfl (by decide) (Nat.le_of_ble_eq_true rfl) (fun l => m_G_begin l μ (c := cod (aFirst a mem)) hB h0.1) (fun μ12 h12 => ?_)
  obtain ⟨hG12, hq12⟩ := h12
  refine zU_iconst d_Y_explore_15 ?_
  refine zU_istore_n d_Y_explore_16 (by decide) ?_
  refine zU.eqL (L' := [some (zp 26), some (zi m), some (zi 1)]) rfl ?_
  have hJ17 : ∀ (d : Nat) (k : Nat) (μ1 : zM), k + d = 201 → gRep (gAt (nxtA a mem) (cod (aFirst a mem)) (12 * k)) μ1 → gMk a mem (gAt (nxtA a mem) (cod (aFirst a mem)) (12 * k)).1 k μ1 → k ≤ (gAt (nxtA a mem) (cod (aFirst a mem)) (12 * k)).1.length → (∀ j, j < k → j < (gAt (nxtA a mem) (cod (aFirst a mem)) (12 * j)).1.length) → (∀ q, (q < 15 ∨ 25 ≤ q) → q ≠ 27 → μ1 q = μ q) → zU Γ b_Y_explore n_Y 3 (some .boolean) [] (zRm 3 0 73) 0 0 (zFin Γ 0 false (zRi (fun r μ' => ((r = 1 ∧ ∃ N, gFin (nxtA a mem) (cod (aFirst a mem)) N ∧ N ≤ 200 ∧ gRep (gAt (nxtA a mem) (cod (aFirst a mem)) (12 * N)) μ' ∧ gMk a mem (gAt (nxtA a mem) (cod (aFirst a mem)) (12 * N)).1 N μ') ∨ (r = 0 ∧ gMany (nxtA a mem) (cod (aFirst a mem)) ∧ ∃ L', gBase L' μ')) ∧ ∀ q, (q < 15 ∨ 25 ≤ q) → q ≠ 27 → μ' q = μ q))) false 0 μ1 17 [some (zp 26), some (zi m), some (zi ((k + 1 : Nat) : Int))] [] := by
    intro d
    induction d using Nat.strongRecOn with
    | _ d ih17 =>
      intro k μ1 hd hG hMk hkl hks hq
      have hl := hG.1.2.1
      have hc1 : cRep a μ1 := cRep_congr hc (fun q h => hq q (by omega) (by omega)) ha
      refine zU_iload_n d_Y_explore_17 rfl ?_
      refine zU_aload_n d_Y_explore_18 rfl ?_
      refine zU_getR 15 d_Y_explore_19 f_Y_25 (by decide) rfl rfl rfl ?_
      refine zU_getI (v := ((gAt (nxtA a mem) (cod (aFirst a mem)) (12 * k)).1.length : Int)) d_Y_explore_22 f_Y_36 (by decide) rfl rfl (hG.1.1) ?_
      refine zU_icmp_gt 52 d_Y_explore_25 (by decide) (by omega) (by omega) (fun h25 => ?_) (fun h25 => ?_)
      · refine zU_iconst d_Y_explore_52 ?_
        exact zU_ireturn d_Y_explore_53 (Or.inr ⟨rfl, by omega⟩) (by decide) (by decide) (⟨_, rfl, Or.inl ⟨rfl, k, ⟨by omega, hks⟩, by omega, hG, hMk⟩, hq⟩)
      · refine zU_iload_n d_Y_explore_28 rfl ?_
        refine zU_sipush d_Y_explore_29 (by decide) ?_
        refine zU_icmp_gt 52 d_Y_explore_32 (by decide) (by omega) (by omega) (fun h32 => ?_) (fun h32 => ?_)
        · exfalso; omega
        · refine zU_aload_n d_Y_explore_35 rfl ?_
          refine zU_iload_n d_Y_explore_36 rfl ?_
          refine zU_iload_n d_Y_explore_37 rfl ?_
          refine zU_callVi (p0 := 26) [zi ((k + 1 : Nat) : Int), zi m] d_Y_explore_38 k_Y_71 rfl (by decide) rfl rfl (by decide) (Nat.le_of_ble_eq_true rfl) (fun l => m_Y_exploreFrom l μ1 ha hc1 hm hpm h0 hG (by omega) hMk) (fun r38 μ38 h38 => ?_)
          have hr38 : -2147483648 ≤ r38 ∧ r38 ≤ 2147483647 := by rcases h38.1 with h | h <;> omega
          refine zU_if_ne 46 d_Y_explore_41 (by decide) (hr38) (fun h41 => ?_) (fun h41 => ?_)
          · have hlen38 : (gAt (nxtA a mem) (cod (aFirst a mem)) (12 * k)).1.length ≤ (gAt (nxtA a mem) (cod (aFirst a mem)) (12 * (k + 1))).1.length := gAt_len (by omega)
            have hx38 : gRep (gAt (nxtA a mem) (cod (aFirst a mem)) (12 * (k + 1))) μ38 ∧ gMk a mem (gAt (nxtA a mem) (cod (aFirst a mem)) (12 * (k + 1))).1 (k + 1) μ38 := by rcases h38.1 with h | h; exact h.2; exact absurd h.1 h41
            refine zU_iinc d_Y_explore_46 rfl ?_
            refine zU.eqL (L' := [some (zp 26), some (zi m), some (zi (((k + 1 + 1 : Nat) : Int)))]) (by first | rfl | (show _ = _; simp only [List.set]; congr 3; omega)) ?_
            refine zU_goto 17 d_Y_explore_49 (by decide) ?_
            exact ih17 (d - 1) (by omega) (k + 1) _ (by omega) hx38.1 hx38.2 (by omega) (fun j hj => by by_cases h : j = k; { rw [h]; omega }; { exact hks j (by omega) }) (fun q h h27 => by rw [h38.2 q h h27]; exact hq q h h27)
          · refine zU_iconst d_Y_explore_44 ?_
            exact zU_ireturn d_Y_explore_45 (Or.inr ⟨rfl, by omega⟩) (by decide) (by decide) (⟨_, rfl, Or.inr ⟨rfl, by rcases h38.1 with h | h; exact absurd h.1 (by omega); exact h.2⟩, fun q h h27 => by rw [h38.2 q h h27]; exact hq q h h27⟩)
  exact hJ17 201 0 _ (by omega) hG12 (fun j c hj => absurd hj (by omega)) (by omega) (fun j hj => absurd hj (by omega)) (fun q h h27 => hq12 q (by omega) (by omega) (by omega) (by omega) (by omega) (by omega))
