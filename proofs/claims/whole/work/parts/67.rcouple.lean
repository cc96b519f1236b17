def pGo (L : List Nat) (G1 G2 : Nat → Bool) (k : Nat) : Bool := G1 (L.getD k 0 / 256) && G2 (L.getD k 0 % 256)
theorem pT_0 {nxt : Nat → Nat → Option Nat} {c0 n k e p : Nat} (hF : gFin nxt c0 n) (he : e < 12) (hp : (gAt nxt c0 (12 * n)).1[k]? = some p) (h : nxt p e = none) : gtg (gAt nxt c0 (12 * n)) k e = 0 := by
  have hk := (List.getElem?_eq_some_iff.mp hp).1
  rw [hF.1] at hk
  obtain ⟨c, h1, h2, _⟩ := gTo_fin hF hk he
  rw [hp] at h1
  cases h1
  exact h2 h
theorem pT_s {nxt : Nat → Nat → Option Nat} {c0 n k e p q : Nat} (hF : gFin nxt c0 n) (he : e < 12) (hp : (gAt nxt c0 (12 * n)).1[k]? = some p) (h : nxt p e = some q) : ∃ j, (gAt nxt c0 (12 * n)).1[j]? = some q ∧ gtg (gAt nxt c0 (12 * n)) k e = j + 1 := by
  have hk := (List.getElem?_eq_some_iff.mp hp).1
  rw [hF.1] at hk
  obtain ⟨c, h1, _, h3⟩ := gTo_fin hF hk he
  rw [hp] at h1
  cases h1
  exact h3 q h
set_option maxRecDepth 100000 in
set_option maxHeartbeats 4000000 in
theorem m_R_isRule (l : Launch) (μ : zM) {a : aT} (ha : aOk a) (hc : rRep a μ) {x : Int} (hx : -2147483648 ≤ x ∧ x ≤ 2147483647) :
    zC l y_R_isRule b_R_isRule 2 (some .boolean) [] 1 0 21 true [zp 51, zi x] μ (zRi (fun r μ' => μ' = μ ∧ r = zB (decide (0 ≤ x ∧ x < (aN a : Int)) && !aP a x.toNat))) := by
  refine zC.of (own := n_R) (L := [some (zp 51), some (zi x)]) (by decide) rfl (by simp [zcat]) (Nat.le_of_ble_eq_true rfl) rfl (fun Γ => ?_)
  have hN4 := ha.1
  refine zU_iload_n d_R_isRule_0 rfl ?_
  refine zU_aload_n d_R_isRule_1 rfl ?_
  refine zU_getI (v := (aN a : Int)) d_R_isRule_2 f_R_98 (by decide) rfl rfl (hc.1) ?_
  refine zU_callSi [zi x, zi ((aN a : Int))] d_R_isRule_5 k_R_94 rfl (by decide) (Nat.le_of_ble_eq_true rfl) (fun l => m_R_out l μ hx (by omega)) (fun r5 μ5 h5 => ?_)
  obtain ⟨hμ5, rfl⟩ := h5
  replace hμ5 := hμ5.symm
  subst hμ5
  refine zU_if_ne 24 d_R_isRule_8 (by decide) (zBr _) (fun h8 => ?_) (fun h8 => ?_)
  · have b8 := zB_nz.mp h8
    refine zU_iconst d_R_isRule_24 ?_
    exact zU_ireturn d_R_isRule_25 (Or.inr ⟨rfl, by omega⟩) (by decide) (by decide) (⟨_, rfl, rfl, by rw [decide_eq_false (nd_t b8)]; rfl⟩)
  · have b8 := zB_zero.mp h8
    refine zU_aload_n d_R_isRule_11 rfl ?_
    refine zU_getR 53 d_R_isRule_12 f_R_13 (by decide) rfl rfl rfl ?_
    refine zU_iload_n d_R_isRule_15 rfl ?_
    refine zU_zald (v := zB (aP a x.toNat)) d_R_isRule_16 (by decide) rfl (by decide) (by have := nd_f b8; omega) ((hc.2.1 x.toNat (by have := nd_f b8; omega)).2.1) ?_
    refine zU_if_ne 24 d_R_isRule_17 (by decide) (zBr _) (fun h17 => ?_) (fun h17 => ?_)
    · have b17 := zB_nz.mp h17
      refine zU_iconst d_R_isRule_24 ?_
      exact zU_ireturn d_R_isRule_25 (Or.inr ⟨rfl, by omega⟩) (by decide) (by decide) (⟨_, rfl, rfl, by rw [b17, decide_eq_true (nd_f b8)]; rfl⟩)
    · have b17 := zB_zero.mp h17
      refine zU_iconst d_R_isRule_20 ?_
      refine zU_goto 25 d_R_isRule_21 (by decide) ?_
      exact zU_ireturn d_R_isRule_25 (Or.inr ⟨rfl, by omega⟩) (by decide) (by decide) (⟨_, rfl, rfl, by rw [b17, decide_eq_true (nd_f b8)]; rfl⟩)
set_option maxRecDepth 100000 in
set_option maxHeartbeats 4000000 in
theorem m_R_isThere (l : Launch) (μ : zM) {a : aT} (ha : aOk a) (hc : rRep a μ) {x : Nat} (hx : x < aN a) {w : Nat} (hw : w < 3) :
    zC l y_R_isThere b_R_isThere 3 (some .boolean) [] 3 0 82 false [zp 51, zi (w : Int), zi (x : Int)] μ (zRi (fun r' μ' => ((r' = 0 ∧ rNone a x) ∨ (r' = 1 ∧ ∃ N K, rThere a x N K ∧ K 0 = true ∧ rGr a (aMem a (some x)) w N μ' ∧ rBd w N K μ')) ∧ rFr w μ μ')) := by
  refine zC.of (own := n_R) (L := [some (zp 51), some (zi (w : Int)), some (zi (x : Int))]) (by decide) rfl (by simp [zcat]) (Nat.le_of_ble_eq_true rfl) rfl (fun Γ => ?_)
  have hN4 := ha.1
  have hxx : ∀ z, some x = some z → z < 4 := fun z h => by cases h; omega
  refine zU_aload_n d_R_isThere_0 rfl ?_
  refine zU_iload_n d_R_isThere_1 rfl ?_
  refine zU_callVi (p0 := 51) [zi (x : Int)] d_R_isThere_2 k_R_138 rfl (by decide) rfl rfl (by decide) (Nat.le_of_ble_eq_true rfl) (fun l => m_R_isModel l μ ha hc (r := some x) hxx) (fun r2 μ2 h2 => ?_)
  obtain ⟨hμ2, rfl⟩ := h2
  replace hμ2 := hμ2.symm
  subst hμ2
  refine zU_if_eq 17 d_R_isThere_5 (by decide) (zBr _) (fun h5 => ?_) (fun h5 => ?_)
  · have b5 := zB_zero.mp h5
    refine zU_iconst d_R_isThere_17 ?_
    exact zU_ireturn d_R_isThere_18 (Or.inr ⟨rfl, by omega⟩) (by decide) (by decide) (⟨_, rfl, Or.inl ⟨rfl, Or.inl b5⟩, rFr_rf _ _⟩)
  · have b5 := zB_nz.mp h5
    refine zU_aload_n d_R_isThere_8 rfl ?_
    refine zU_iload_n d_R_isThere_9 rfl ?_
    refine zU_iload_n d_R_isThere_10 rfl ?_
    refine zU_callVi (p0 := 51) [zi (w : Int), zi (x : Int)] d_R_isThere_11 k_R_141 rfl (by decide) rfl rfl (by decide) (Nat.le_of_ble_eq_true rfl) (fun l => m_R_explore l μ ha hc (r := some x) hxx (w := w) hw (ready_I b5)) (fun r11 μ11 h11 => ?_)
    obtain ⟨h11a, hF11⟩ := h11
    have hr11 : -2147483648 ≤ r11 ∧ r11 ≤ 2147483647 := by rcases h11a with h | h <;> omega
    refine zU_if_ne 19 d_R_isThere_14 (by decide) (hr11) (fun h14 => ?_) (fun h14 => ?_)
    · obtain ⟨N, hFin, hN0, hN, hG11, hB11⟩ : ∃ N, gFin (nxtA a (aMem a (some x))) (cod (aFirst a (aMem a (some x)))) N ∧ 0 < N ∧ N ≤ 200 ∧ rGr a (aMem a (some x)) w N μ11 ∧ rBd w N (sB a (aMem a (some x)) (sg a (aMem a (some x)) N)) μ11 := by
        rcases h11a with h | h
        · exact h.2
        · exact absurd h.1 h14
      have hT11 := rGr_T ha (rRep_fr hc hF11) hFin hN hG11
      refine zU_aload_n d_R_isThere_19 rfl ?_
      refine zU_iload_n d_R_isThere_20 rfl ?_
      refine zU_callVv (p0 := 51) [zi (w : Int)] d_R_isThere_21 k_R_144 rfl (by decide) rfl rfl (by decide) (Nat.le_of_ble_eq_true rfl) (fun l => m_R_settle l μ11 (w := w) hw hT11 hB11 (gAbove_B _ _ _ _ _ _)) (fun μ21 h21 => ?_)
      obtain ⟨K', hF21, hB21, hA21, hP21⟩ := h21
      have hG21 : rGr a (aMem a (some x)) w N μ21 := rGr_fr hG11 hN (fun q x h1 h2 _ => hF21 q x (by omega))
      have hTh : rThere a x N K' := ⟨b5, hFin, ⟨hN0, hN⟩, hP21, hA21⟩
      refine zU_aload_n d_R_isThere_24 rfl ?_
      refine zU_getR 65 d_R_isThere_25 f_R_50 (by decide) rfl rfl rfl ?_
      refine zU_sipush d_R_isThere_28 (by decide) ?_
      refine zU_iload_n d_R_isThere_31 rfl ?_
      refine zU_imul d_R_isThere_32 ?_
      refine zU_zald (v := zB (!K' 0)) d_R_isThere_33 (by decide) rfl (by decide) (by omega) (by rw [show (200 * (w : Int)).toNat = 200 * w + 0 by omega]; exact hB21 0 hN0) ?_
      refine zU_if_ne 41 d_R_isThere_34 (by decide) (zBr _) (fun h34 => ?_) (fun h34 => ?_)
      · have b34 := zB_nz.mp h34
        refine zU_iconst d_R_isThere_41 ?_
        exact zU_ireturn d_R_isThere_42 (Or.inr ⟨rfl, by omega⟩) (by decide) (by decide) (⟨_, rfl, Or.inl ⟨rfl, Or.inr (Or.inr ⟨N, K', hTh, by simpa using b34⟩)⟩, rFr_tr hF11 (rF2_fr hF21)⟩)
      · have b34 := zB_zero.mp h34
        refine zU_iconst d_R_isThere_37 ?_
        refine zU_goto 42 d_R_isThere_38 (by decide) ?_
        exact zU_ireturn d_R_isThere_42 (Or.inr ⟨rfl, by omega⟩) (by decide) (by decide) (⟨_, rfl, Or.inr ⟨rfl, N, K', hTh, by simpa using b34, hG21, hB21⟩, rFr_tr hF11 (rF2_fr hF21)⟩)
    · refine zU_iconst d_R_isThere_17 ?_
      exact zU_ireturn d_R_isThere_18 (Or.inr ⟨rfl, by omega⟩) (by decide) (by decide) (⟨_, rfl, Or.inl ⟨rfl, Or.inr (Or.inl ⟨b5, by rcases h11a with h | h; { exfalso; omega }; { exact h.2 }⟩)⟩, hF11⟩)
set_option maxRecDepth 100000 in
set_option maxHeartbeats 4000000 in
theorem m_R_couple (l : Launch) (μ : zM) {L : List Nat} (hP : rPr L μ) (hPb : ∀ k p : Nat, L[k]? = some p → p < 65536) {x y : Nat} (hx : x < 256) (hy : y < 256) :
    zC l y_R_couple b_R_couple 4 (some .int) [] 0 0 0 false [zp 51, zi (x : Int), zi (y : Int)] μ (zRi (fun r μ' => (∃ k : Nat, L[k]? = some (256 * x + y) ∧ r = (k : Int) ∧ μ' = μ) ∨ ((256 * x + y) ∉ L ∧ L.length = 200 ∧ r = -1 ∧ μ' = μ) ∨ ((256 * x + y) ∉ L ∧ L.length < 200 ∧ r = (L.length : Int) ∧ μ' = (zup (zup (zup μ 74 L.length (x : Int)) 75 L.length (y : Int)) 51 29 ((L.length + 1 : Nat) : Int))))) := by
  refine zC.of (own := n_R) (L := [some (zp 51), some (zi (x : Int)), some (zi (y : Int)), none]) (by decide) rfl (by simp [zcat]) (Nat.le_of_ble_eq_true rfl) rfl (fun Γ => ?_)
  have hL := hP.2.1
  refine zU_iconst d_R_couple_0 ?_
  refine zU_istore_n d_R_couple_1 (by decide) ?_
  refine zU.eqL (L' := [some (zp 51), some (zi (x : Int)), some (zi (y : Int)), some (zi 0)]) rfl ?_
  have hJ2 : ∀ (d : Nat) (k : Nat), k + d = L.length → (∀ j, j < k → L[j]? ≠ some (256 * x + y)) → zU Γ b_R_couple n_R 4 (some .int) [] (zRm 0 0 0) 0 0 (zFin Γ 0 false (zRi (fun r μ' => (∃ k : Nat, L[k]? = some (256 * x + y) ∧ r = (k : Int) ∧ μ' = μ) ∨ ((256 * x + y) ∉ L ∧ L.length = 200 ∧ r = -1 ∧ μ' = μ) ∨ ((256 * x + y) ∉ L ∧ L.length < 200 ∧ r = (L.length : Int) ∧ μ' = (zup (zup (zup μ 74 L.length (x : Int)) 75 L.length (y : Int)) 51 29 ((L.length + 1 : Nat) : Int)))))) true 0 μ 2 [some (zp 51), some (zi (x : Int)), some (zi (y : Int)), some (zi (k : Int))] [] := by
    intro d
    induction d using Nat.strongRecOn with
    | _ d ih2 =>
      intro k hd hj
      refine zU_iload_n d_R_couple_2 rfl ?_
      refine zU_aload_n d_R_couple_3 rfl ?_
      refine zU_getI (v := (L.length : Int)) d_R_couple_4 f_R_164 (by decide) rfl rfl (hP.1) ?_
      refine zU_icmp_ge 38 d_R_couple_7 (by decide) (by omega) (by omega) (fun h7 => ?_) (fun h7 => ?_)
      · have hno : (256 * x + y) ∉ L := fun hm => by
          obtain ⟨j, hj'⟩ := List.getElem?_of_mem hm
          exact hj j (by have := (List.getElem?_eq_some_iff.mp hj').1; omega) hj'
        refine zU_aload_n d_R_couple_38 rfl ?_
        refine zU_getI (v := (L.length : Int)) d_R_couple_39 f_R_164 (by decide) rfl rfl (hP.1) ?_
        refine zU_sipush d_R_couple_42 (by decide) ?_
        refine zU_icmp_ne 50 d_R_couple_45 (by decide) (by omega) (by omega) (fun h45 => ?_) (fun h45 => ?_)
        · refine zU_aload_n d_R_couple_50 rfl ?_
          refine zU_getR 74 d_R_couple_51 f_R_77 (by decide) rfl rfl rfl ?_
          refine zU_aload_n d_R_couple_54 rfl ?_
          refine zU_getI (v := (L.length : Int)) d_R_couple_55 f_R_164 (by decide) rfl rfl (hP.1) ?_
          refine zU_iload_n d_R_couple_58 rfl ?_
          refine zU_iast d_R_couple_59 (by decide) rfl (by decide) (by omega) ?_
          refine zU.eqM (μ' := (zup μ 74 L.length (x : Int))) rfl ?_
          refine zU_aload_n d_R_couple_60 rfl ?_
          refine zU_getR 75 d_R_couple_61 f_R_80 (by decide) rfl rfl rfl ?_
          refine zU_aload_n d_R_couple_64 rfl ?_
          refine zU_getI (v := (L.length : Int)) d_R_couple_65 f_R_164 (by decide) rfl rfl (by rw [zup_ne _ _ _ (by decide)]; exact hP.1) ?_
          refine zU_iload_n d_R_couple_68 rfl ?_
          refine zU_iast d_R_couple_69 (by decide) rfl (by decide) (by omega) ?_
          refine zU.eqM (μ' := (zup (zup μ 74 L.length (x : Int)) 75 L.length (y : Int))) rfl ?_
          refine zU_aload_n d_R_couple_70 rfl ?_
          refine zU_dup d_R_couple_71 rfl ?_
          refine zU_getI (v := (L.length : Int)) d_R_couple_72 f_R_164 (by decide) rfl rfl (by rw [zup_ne _ _ _ (by decide), zup_ne _ _ _ (by decide)]; exact hP.1) ?_
          refine zU_iconst d_R_couple_75 ?_
          refine zU_iadd d_R_couple_76 ?_
          refine zU_putI d_R_couple_77 f_R_164 p_R_pairs (by decide) rfl rfl (Or.inl rfl) ?_
          refine zU.eqM (μ' := (zup (zup (zup μ 74 L.length (x : Int)) 75 L.length (y : Int)) 51 29 ((L.length + 1 : Nat) : Int))) rfl ?_
          refine zU_aload_n d_R_couple_80 rfl ?_
          refine zU_getI (v := ((L.length + 1 : Nat) : Int)) d_R_couple_81 f_R_164 (by decide) rfl rfl (by rw [zup_at]; simp) ?_
          refine zU_iconst d_R_couple_84 ?_
          refine zU_isub d_R_couple_85 ?_
          exact zU_ireturn d_R_couple_86 (Or.inl rfl) (by decide) (by decide) (⟨_, rfl, Or.inr (Or.inr ⟨hno, by omega, by omega, rfl⟩)⟩)
        · refine zU_iconst d_R_couple_48 ?_
          exact zU_ireturn d_R_couple_49 (Or.inl rfl) (by decide) (by decide) (⟨_, rfl, Or.inr (Or.inl ⟨hno, by omega, rfl, rfl⟩)⟩)
      · obtain ⟨p, hp⟩ : ∃ p, L[k]? = some p := ⟨_, List.getElem?_eq_getElem (by omega)⟩
        have hp2 := hP.2.2 k p hp
        have hpl : p / 256 < 2147483648 := by have h9 := hPb k p hp; omega
        refine zU_aload_n d_R_couple_10 rfl ?_
        refine zU_getR 74 d_R_couple_11 f_R_77 (by decide) rfl rfl rfl ?_
        refine zU_iload_n d_R_couple_14 rfl ?_
        refine zU_iald (v := ((p / 256 : Nat) : Int)) d_R_couple_15 (by decide) rfl (by decide) (by omega) (hp2.1) ?_
        refine zU_iload_n d_R_couple_16 rfl ?_
        refine zU_icmp_ne 32 d_R_couple_17 (by decide) (by omega) (by omega) (fun h17 => ?_) (fun h17 => ?_)
        · refine zU_iinc d_R_couple_32 rfl ?_
          refine zU.eqL (L' := [some (zp 51), some (zi (x : Int)), some (zi (y : Int)), some (zi (((k + 1 : Nat) : Int)))]) (by first | rfl | exact congrArg (fun zz : Int => [some (zp 51), some (zi (x : Int)), some (zi (y : Int)), some (zi zz)]) (show ((k : Int) + 1 : Int) = ((k + 1 : Nat) : Int) by omega)) ?_
          refine zU_goto 2 d_R_couple_35 (by decide) ?_
          exact ih2 (d - 1) (by omega) (k + 1) (by omega) (fun j hj' => by by_cases h : j = k; { rw [h, hp]; intro h9; have h8 := Option.some.inj h9; omega }; { exact hj j (by omega) })
        · refine zU_aload_n d_R_couple_20 rfl ?_
          refine zU_getR 75 d_R_couple_21 f_R_80 (by decide) rfl rfl rfl ?_
          refine zU_iload_n d_R_couple_24 rfl ?_
          refine zU_iald (v := ((p % 256 : Nat) : Int)) d_R_couple_25 (by decide) rfl (by decide) (by omega) (hp2.2) ?_
          refine zU_iload_n d_R_couple_26 rfl ?_
          refine zU_icmp_ne 32 d_R_couple_27 (by decide) (by omega) (by omega) (fun h27 => ?_) (fun h27 => ?_)
          · refine zU_iinc d_R_couple_32 rfl ?_
            refine zU.eqL (L' := [some (zp 51), some (zi (x : Int)), some (zi (y : Int)), some (zi (((k + 1 : Nat) : Int)))]) (by first | rfl | exact congrArg (fun zz : Int => [some (zp 51), some (zi (x : Int)), some (zi (y : Int)), some (zi zz)]) (show ((k : Int) + 1 : Int) = ((k + 1 : Nat) : Int) by omega)) ?_
            refine zU_goto 2 d_R_couple_35 (by decide) ?_
            exact ih2 (d - 1) (by omega) (k + 1) (by omega) (fun j hj' => by by_cases h : j = k; { rw [h, hp]; intro h9; have h8 := Option.some.inj h9; omega }; { exact hj j (by omega) })
          · refine zU_iload_n d_R_couple_30 rfl ?_
            exact zU_ireturn d_R_couple_31 (Or.inl rfl) (by decide) (by decide) (⟨_, rfl, Or.inl ⟨k, by rw [hp]; congr 1; omega, rfl, rfl⟩⟩)
  exact hJ2 L.length 0 (by omega) (fun j hj => absurd hj (by omega))
