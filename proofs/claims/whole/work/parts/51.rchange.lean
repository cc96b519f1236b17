def rNo (μ : zM) : Prop := μ 51 17 = 0 ∧ μ 51 18 = 0
/-- thrown and change written -/
def rChg (μ : zM) (t : Int) : zM := zup (zup (zup μ 51 0 t) 51 17 0) 51 18 0
theorem rChg_q (μ : zM) (t : Int) {q : Nat} (h : q ≠ 51) : rChg μ t q = μ q := by
  unfold rChg
  rw [zup_ne _ _ _ h, zup_ne _ _ _ h, zup_ne _ _ _ h]
theorem rChg_i (μ : zM) (t : Int) {i : Nat} (h0 : i ≠ 0) (h1 : i ≠ 17) (h2 : i ≠ 18) : rChg μ t 51 i = μ 51 i := by
  unfold rChg
  rw [zup_at, zup_at, zup_at]
  simp [h0, h1, h2]
theorem rChg_0 (μ : zM) (t : Int) : rChg μ t 51 0 = t ∧ rChg μ t 51 17 = 0 ∧ rChg μ t 51 18 = 0 := by
  unfold rChg
  refine ⟨?_, ?_, ?_⟩
  · rw [zup_at, zup_at, zup_at]; simp
  · rw [zup_at, zup_at]; simp
  · rw [zup_at]; simp
theorem rRep_chg {a : aT} {μ : zM} {t : Int} (h : rRep a μ) : rRep a (rChg μ t) := rRep_congr h (rChg_i μ t (by decide) (by decide) (by decide)) (fun q h1 h2 => rChg_q μ t (by omega))
theorem rRep_thr {a : aT} {μ : zM} {t : Int} (h : rRep a μ) : rRep a (zup μ 51 0 t) := rRep_congr h (by rw [zup_at]; simp) (fun q h1 h2 => zup_ne _ _ _ (by omega))
theorem tcd_z {p q : Bool} (h : (p || q) = false) : tcd p q = 0 := by
  cases p <;> cases q <;> first | rfl | cases h
theorem tcd_1 {p q : Bool} (h : p = true) : tcd p q = 1 := by rw [h]; rfl
theorem tcd_2 {p q : Bool} (h : p = false) (h2 : q = true) : tcd p q = 2 := by rw [h, h2]; rfl
theorem rRep_add {a : aT} {n : Nat} {p : Bool} {μ μ' : zM} (h : rRep a μ) (h1 : μ' 51 1 = ((aN a + 1 : Nat) : Int)) (h52 : ∀ j, μ' 52 j = if j = aN a then (n : Int) else μ 52 j) (h53 : ∀ j, μ' 53 j = if j = aN a then zB p else μ 53 j) (h54 : ∀ j, μ' 54 j = if j = aN a then -1 else μ 54 j)
    (h55 : ∀ j, j < 6 → μ' 55 (6 * aN a + j) = 0 ∧ μ' 56 (6 * aN a + j) = 0) (h56 : ∀ j, j < 6 * aN a → μ' 55 j = μ 55 j ∧ μ' 56 j = μ 56 j) (h57 : ∀ j, j < 72 → μ' 57 (72 * aN a + j) = -1) (h58 : ∀ j, j < 72 * aN a → μ' 57 j = μ 57 j) (h8 : μ' 58 = μ 58) (h9 : μ' 59 = μ 59) : rRep (aAdd a n p) μ' := by
  obtain ⟨g1, g2, g3⟩ := h
  refine ⟨h1, fun i hi => ?_, by rw [h8, h9]; exact g3⟩
  have hi' : i < aN a + 1 := hi
  by_cases hia : i = aN a
  · subst hia
    refine ⟨by rw [h52, if_pos rfl]; simp [aAdd, aS], by rw [h53, if_pos rfl]; simp [aAdd, aP], by rw [h54, if_pos rfl]; simp [aAdd, aI], fun s hs => ⟨?_, ?_, fun e he => ?_⟩⟩
    · rw [(h55 s hs).1]; simp [aAdd, aM, zB]
    · rw [(h55 s hs).2]; simp [aAdd, aF, zB]
    · have := h57 (12 * s + e) (by omega)
      rw [← Nat.add_assoc] at this
      rw [this]; simp [aAdd, aE]
  · obtain ⟨q1, q2, q3, q4⟩ := g2 i (by omega)
    refine ⟨by rw [h52, if_neg hia, q1]; simp [aAdd, aS, hia], by rw [h53, if_neg hia, q2]; simp [aAdd, aP, hia], by rw [h54, if_neg hia, q3]; simp [aAdd, aI, hia], fun s hs => ⟨?_, ?_, fun e he => ?_⟩⟩
    · rw [(h56 (6 * i + s) (by omega)).1, (q4 s hs).1]; simp [aAdd, aM, hia]
    · rw [(h56 (6 * i + s) (by omega)).2, (q4 s hs).2.1]; simp [aAdd, aF, hia]
    · rw [h58 (72 * i + 12 * s + e) (by omega), (q4 s hs).2.2 e he]; simp [aAdd, aE, hia]
theorem rRep_decl {a : aT} {e : Nat} {b : Bool} {μ μ' : zM} (h : rRep a μ) (h51 : μ' 51 1 = μ 51 1) (hq : ∀ q, 52 ≤ q → q ≤ 57 → μ' q = μ q) (h58 : ∀ j, μ' 58 j = if j = e then 1 else μ 58 j) (h59 : ∀ j, μ' 59 j = if j = e then zB b else μ 59 j) : rRep (aDecl a e b) μ' := by
  obtain ⟨g1, g2, g3⟩ := h
  refine ⟨by rw [h51]; exact g1, fun i hi => ?_, fun j hj => ?_⟩
  · unfold rAut
    rw [hq 52 (by omega) (by omega), hq 53 (by omega) (by omega), hq 54 (by omega) (by omega), hq 55 (by omega) (by omega), hq 56 (by omega) (by omega), hq 57 (by omega) (by omega)]
    exact g2 i hi
  · obtain ⟨q1, q2, q3⟩ := g3 j hj
    rw [h58, h59]
    by_cases hje : j = e
    · rw [if_pos hje, if_pos hje]
      refine ⟨by simp [aDecl, aD, hje, zB], zB_or b, fun _ => by simp [aDecl, aC, hje]⟩
    · rw [if_neg hje, if_neg hje]
      refine ⟨by rw [q1]; simp [aDecl, aD, hje], q2, fun hd => ?_⟩
      have : aD a j = true := by simpa [aDecl, aD, hje] using hd
      rw [q3 this]; simp [aDecl, aC, hje]
theorem rRep_edge {a : aT} {i s e : Nat} {t : Int} {μ μ' : zM} (h : rRep a μ) (hs : s < 6) (he : e < 12) (h51 : μ' 51 1 = μ 51 1) (hq : ∀ q, 52 ≤ q → q ≤ 59 → q ≠ 57 → μ' q = μ q) (h57 : ∀ j, μ' 57 j = if j = 72 * i + 12 * s + e then t else μ 57 j) : rRep (aEdge a i s e t) μ' := by
  obtain ⟨g1, g2, g3⟩ := h
  refine ⟨by rw [h51]; exact g1, fun i' hi' => ?_, by rw [hq 58 (by omega) (by omega) (by omega), hq 59 (by omega) (by omega) (by omega)]; exact g3⟩
  obtain ⟨q1, q2, q3, q4⟩ := g2 i' hi'
  refine ⟨by rw [hq 52 (by omega) (by omega) (by omega)]; exact q1, by rw [hq 53 (by omega) (by omega) (by omega)]; exact q2, by rw [hq 54 (by omega) (by omega) (by omega)]; exact q3, fun s' hs' => ⟨by rw [hq 55 (by omega) (by omega) (by omega)]; exact (q4 s' hs').1, by rw [hq 56 (by omega) (by omega) (by omega)]; exact (q4 s' hs').2.1, fun e' he' => ?_⟩⟩
  rw [h57]
  by_cases hc : i' = i ∧ s' = s ∧ e' = e
  · obtain ⟨rfl, rfl, rfl⟩ := hc
    simp [aEdge, aE]
  · rw [if_neg (by omega), (q4 s' hs').2.2 e' he']
    simp [aEdge, aE, hc]
set_option maxRecDepth 100000 in
set_option maxHeartbeats 4000000 in
theorem m_R_automaton (l : Launch) (μ : zM) {a : aT} (ha : aOk a) (hc : rRep a μ) {x y : Int} (hx : -2147483648 ≤ x ∧ x ≤ 2147483647) (hy : -2147483648 ≤ y ∧ y ≤ 2147483647) :
    zC l y_R_automaton b_R_automaton 5 (some .int) [] 1 0 22 false [zp 51, zi x, zi y] μ (zRi (fun r μ' => ((μ' 51 0 = 0 ∧ ∃ (n : Nat) (p : Bool), x = n ∧ y = zB (!p) ∧ (1 ≤ n ∧ n ≤ 6) ∧ aN a < 4 ∧ r = aN a ∧ rRep (aAdd a n p) μ' ∧ rNo μ') ∨ (μ' = zup μ 51 0 1 ∧ ¬ (1 ≤ x ∧ x ≤ 6 ∧ 0 ≤ y ∧ y ≤ 1)) ∨ (μ' = zup μ 51 0 2 ∧ (1 ≤ x ∧ x ≤ 6 ∧ 0 ≤ y ∧ y ≤ 1) ∧ aN a = 4)) ∧ (∀ q, (q < 51 ∨ q = 76) → μ' q = μ q))) := by
  refine zC.of (own := n_R) (L := [some (zp 51), some (zi x), some (zi y), none, none]) (by decide) rfl (by simp [zcat]) (Nat.le_of_ble_eq_true rfl) rfl (fun Γ => ?_)
  obtain ⟨hN, hA, hE⟩ := id hc
  have hN4 := ha.1
  refine zU_iload_n d_R_automaton_0 rfl ?_
  refine zU_iconst d_R_automaton_1 ?_
  have hJ24 : zU Γ b_R_automaton n_R 5 (some .int) [] (zRm 1 0 22) 0 0 (zFin Γ 0 false (zRi (fun r μ' => ((μ' 51 0 = 0 ∧ ∃ (n : Nat) (p : Bool), x = n ∧ y = zB (!p) ∧ (1 ≤ n ∧ n ≤ 6) ∧ aN a < 4 ∧ r = aN a ∧ rRep (aAdd a n p) μ' ∧ rNo μ') ∨ (μ' = zup μ 51 0 1 ∧ ¬ (1 ≤ x ∧ x ≤ 6 ∧ 0 ≤ y ∧ y ≤ 1)) ∨ (μ' = zup μ 51 0 2 ∧ (1 ≤ x ∧ x ≤ 6 ∧ 0 ≤ y ∧ y ≤ 1) ∧ aN a = 4)) ∧ (∀ q, (q < 51 ∨ q = 76) → μ' q = μ q)))) true 0 μ 24 [some (zp 51), some (zi x), some (zi y), none, none] [zi (zB (!decide (1 ≤ x ∧ x ≤ 6 ∧ 0 ≤ y ∧ y < 2)))] := by
    refine zU_istore_n d_R_automaton_24 (by decide) ?_
    refine zU.eqL (L' := [some (zp 51), some (zi x), some (zi y), some (zi (zB (!decide (1 ≤ x ∧ x ≤ 6 ∧ 0 ≤ y ∧ y < 2)))), none]) rfl ?_
    refine zU_aload_n d_R_automaton_25 rfl ?_
    refine zU_iload_n d_R_automaton_26 rfl ?_
    refine zU_iload_n d_R_automaton_27 rfl ?_
    have hJ44 : zU Γ b_R_automaton n_R 5 (some .int) [] (zRm 1 0 22) 0 0 (zFin Γ 0 false (zRi (fun r μ' => ((μ' 51 0 = 0 ∧ ∃ (n : Nat) (p : Bool), x = n ∧ y = zB (!p) ∧ (1 ≤ n ∧ n ≤ 6) ∧ aN a < 4 ∧ r = aN a ∧ rRep (aAdd a n p) μ' ∧ rNo μ') ∨ (μ' = zup μ 51 0 1 ∧ ¬ (1 ≤ x ∧ x ≤ 6 ∧ 0 ≤ y ∧ y ≤ 1)) ∨ (μ' = zup μ 51 0 2 ∧ (1 ≤ x ∧ x ≤ 6 ∧ 0 ≤ y ∧ y ≤ 1) ∧ aN a = 4)) ∧ (∀ q, (q < 51 ∨ q = 76) → μ' q = μ q)))) true 0 μ 44 [some (zp 51), some (zi x), some (zi y), some (zi (zB (!decide (1 ≤ x ∧ x ≤ 6 ∧ 0 ≤ y ∧ y < 2)))), none] [zi (zB (!(!decide (1 ≤ x ∧ x ≤ 6 ∧ 0 ≤ y ∧ y < 2)) && decide (aN a = 4))), zi (zB (!decide (1 ≤ x ∧ x ≤ 6 ∧ 0 ≤ y ∧ y < 2))), zp 51] := by
      refine zU_callVi (p0 := 51) [zi (zB (!decide (1 ≤ x ∧ x ≤ 6 ∧ 0 ≤ y ∧ y < 2))), zi (zB (!(!decide (1 ≤ x ∧ x ≤ 6 ∧ 0 ≤ y ∧ y < 2)) && decide (aN a = 4)))] d_R_automaton_44 k_R_101 rfl (by decide) rfl rfl (by decide) (Nat.le_of_ble_eq_true rfl) (fun l => m_R_throwing l μ (p := !decide (1 ≤ x ∧ x ≤ 6 ∧ 0 ≤ y ∧ y < 2)) (q := !(!decide (1 ≤ x ∧ x ≤ 6 ∧ 0 ≤ y ∧ y < 2)) && decide (aN a = 4))) (fun r44 μ44 h44 => ?_)
      obtain ⟨hr44, hμ44⟩ := h44
      subst hr44 hμ44
      refine zU_if_eq 52 d_R_automaton_47 (by decide) (zBr _) (fun h47 => ?_) (fun h47 => ?_)
      · have b47 := zB_zero.mp h47
        have b47' := b47
        rw [Bool.or_eq_false_iff] at b47'
        have g1 := nd_f b47'.1
        have g2 : aN a < 4 := by have h9 := b47'.2; rw [b47'.1] at h9; simp at h9; omega
        obtain ⟨n, hxn⟩ : ∃ n : Nat, x = (n : Int) := ⟨x.toNat, by omega⟩
        obtain ⟨p, hyp⟩ : ∃ p : Bool, y = zB (!p) := ⟨decide (y = 0), by rcases (show y = 0 ∨ y = 1 by omega) with h | h <;> rw [h] <;> rfl⟩
        have hNc : (rChg μ 0) 51 1 = (aN a : Int) := by rw [rChg_i μ 0 (by decide) (by decide) (by decide)]; exact hN
        refine zU.eqL (L' := [some (zp 51), some (zi (n : Int)), some (zi (zB (!p))), some (zi (zB (!decide (1 ≤ x ∧ x ≤ 6 ∧ 0 ≤ y ∧ y < 2)))), none]) (by rw [← hxn, ← hyp]) ?_
        refine zU_aload_n d_R_automaton_52 rfl ?_
        refine zU_callVv (p0 := 51) [] d_R_automaton_53 k_R_105 rfl (by decide) rfl rfl (by decide) (Nat.le_of_ble_eq_true rfl) (fun l => m_R_change l _) (fun μ53 h53 => ?_)
        subst h53
        refine zU.eqM (μ' := (rChg μ 0)) (by rw [tcd_z b47]; rfl) ?_
        refine zU_aload_n d_R_automaton_56 rfl ?_
        refine zU_getR 52 d_R_automaton_57 f_R_7 (by decide) rfl rfl rfl ?_
        refine zU_aload_n d_R_automaton_60 rfl ?_
        refine zU_getI (v := (aN a : Int)) d_R_automaton_61 f_R_98 (by decide) rfl rfl (hNc) ?_
        refine zU_iload_n d_R_automaton_64 rfl ?_
        refine zU_iast d_R_automaton_65 (by decide) rfl (by decide) (by omega) ?_
        refine zU.eqM (μ' := (zup (rChg μ 0) 52 (aN a) (n : Int))) rfl ?_
        refine zU_aload_n d_R_automaton_66 rfl ?_
        refine zU_getR 53 d_R_automaton_67 f_R_13 (by decide) rfl rfl rfl ?_
        refine zU_aload_n d_R_automaton_70 rfl ?_
        refine zU_getI (v := (aN a : Int)) d_R_automaton_71 f_R_98 (by decide) rfl rfl (by rw [zup_ne _ _ _ (by decide)]; exact hNc) ?_
        refine zU_iload_n d_R_automaton_74 rfl ?_
        have hJ83 : zU Γ b_R_automaton n_R 5 (some .int) [] (zRm 1 0 22) 0 0 (zFin Γ 0 false (zRi (fun r μ' => ((μ' 51 0 = 0 ∧ ∃ (n : Nat) (p : Bool), x = n ∧ y = zB (!p) ∧ (1 ≤ n ∧ n ≤ 6) ∧ aN a < 4 ∧ r = aN a ∧ rRep (aAdd a n p) μ' ∧ rNo μ') ∨ (μ' = zup μ 51 0 1 ∧ ¬ (1 ≤ x ∧ x ≤ 6 ∧ 0 ≤ y ∧ y ≤ 1)) ∨ (μ' = zup μ 51 0 2 ∧ (1 ≤ x ∧ x ≤ 6 ∧ 0 ≤ y ∧ y ≤ 1) ∧ aN a = 4)) ∧ (∀ q, (q < 51 ∨ q = 76) → μ' q = μ q)))) false 0 (zup (rChg μ 0) 52 (aN a) (n : Int)) 83 [some (zp 51), some (zi (n : Int)), some (zi (zB (!p))), some (zi (zB (!decide (1 ≤ x ∧ x ≤ 6 ∧ 0 ≤ y ∧ y < 2)))), none] [zi (zB (p)), zi ((aN a : Int)), zp 53] := by
          refine zU_zast d_R_automaton_83 (by decide) rfl (by decide) (by omega) (zB_or _) ?_
          refine zU.eqM (μ' := (zup (zup (rChg μ 0) 52 (aN a) (n : Int)) 53 (aN a) (zB p))) rfl ?_
          refine zU_aload_n d_R_automaton_84 rfl ?_
          refine zU_getR 54 d_R_automaton_85 f_R_17 (by decide) rfl rfl rfl ?_
          refine zU_aload_n d_R_automaton_88 rfl ?_
          refine zU_getI (v := (aN a : Int)) d_R_automaton_89 f_R_98 (by decide) rfl rfl (by rw [zup_ne _ _ _ (by decide), zup_ne _ _ _ (by decide)]; exact hNc) ?_
          refine zU_iconst d_R_automaton_92 ?_
          refine zU_iast d_R_automaton_93 (by decide) rfl (by decide) (by omega) ?_
          refine zU.eqM (μ' := (zup (zup (zup (rChg μ 0) 52 (aN a) (n : Int)) 53 (aN a) (zB p)) 54 (aN a) (-1))) rfl ?_
          obtain ⟨μd, hμd⟩ : ∃ m, m = (zup (zup (zup (rChg μ 0) 52 (aN a) (n : Int)) 53 (aN a) (zB p)) 54 (aN a) (-1)) := ⟨_, rfl⟩
          refine zU.eqM (μ' := μd) hμd.symm ?_
          have hNd : μd 51 1 = (aN a : Int) := by rw [hμd, zup_ne _ _ _ (by decide), zup_ne _ _ _ (by decide), zup_ne _ _ _ (by decide)]; exact hNc
          refine zU_iconst d_R_automaton_94 ?_
          refine zU_istore d_R_automaton_95 (by decide) ?_
          refine zU.eqL (L' := [some (zp 51), some (zi (n : Int)), some (zi (zB (!p))), some (zi (zB (!decide (1 ≤ x ∧ x ≤ 6 ∧ 0 ≤ y ∧ y < 2)))), some (zi 0)]) rfl ?_
          have hJ97 : ∀ (d : Nat) (k : Nat) (μ1 : zM), k + d = 6 → (∀ j, j < k → μ1 55 (6 * aN a + j) = 0 ∧ μ1 56 (6 * aN a + j) = 0) → (∀ j, j < 6 * aN a → μ1 55 j = μd 55 j ∧ μ1 56 j = μd 56 j) → (∀ q, q ≠ 55 → q ≠ 56 → μ1 q = μd q) → zU Γ b_R_automaton n_R 5 (some .int) [] (zRm 1 0 22) 0 0 (zFin Γ 0 false (zRi (fun r μ' => ((μ' 51 0 = 0 ∧ ∃ (n : Nat) (p : Bool), x = n ∧ y = zB (!p) ∧ (1 ≤ n ∧ n ≤ 6) ∧ aN a < 4 ∧ r = aN a ∧ rRep (aAdd a n p) μ' ∧ rNo μ') ∨ (μ' = zup μ 51 0 1 ∧ ¬ (1 ≤ x ∧ x ≤ 6 ∧ 0 ≤ y ∧ y ≤ 1)) ∨ (μ' = zup μ 51 0 2 ∧ (1 ≤ x ∧ x ≤ 6 ∧ 0 ≤ y ∧ y ≤ 1) ∧ aN a = 4)) ∧ (∀ q, (q < 51 ∨ q = 76) → μ' q = μ q)))) false 0 μ1 97 [some (zp 51), some (zi (n : Int)), some (zi (zB (!p))), none, some (zi (k : Int))] [] := by
            intro d
            induction d using Nat.strongRecOn with
            | _ d ih97 =>
              intro k μ1 hd hz1 ho1 hq1
              refine zU_iload d_R_automaton_97 rfl ?_
              refine zU_bipush d_R_automaton_99 (by decide) ?_
              refine zU_icmp_ge 142 d_R_automaton_101 (by decide) (by omega) (by omega) (fun h101 => ?_) (fun h101 => ?_)
              · refine zU_iconst d_R_automaton_142 ?_
                refine zU_istore d_R_automaton_143 (by decide) ?_
                refine zU.eqL (L' := [some (zp 51), some (zi (n : Int)), some (zi (zB (!p))), none, some (zi 0)]) rfl ?_
                have hk6 : k = 6 := by omega
                subst hk6
                have hJ145 : ∀ (d : Nat) (k : Nat) (μ2 : zM), k + d = 72 → (∀ j, j < k → μ2 57 (72 * aN a + j) = -1) → (∀ j, j < 72 * aN a → μ2 57 j = μd 57 j) → (∀ q, q ≠ 57 → μ2 q = μ1 q) → zU Γ b_R_automaton n_R 5 (some .int) [] (zRm 1 0 22) 0 0 (zFin Γ 0 false (zRi (fun r μ' => ((μ' 51 0 = 0 ∧ ∃ (n : Nat) (p : Bool), x = n ∧ y = zB (!p) ∧ (1 ≤ n ∧ n ≤ 6) ∧ aN a < 4 ∧ r = aN a ∧ rRep (aAdd a n p) μ' ∧ rNo μ') ∨ (μ' = zup μ 51 0 1 ∧ ¬ (1 ≤ x ∧ x ≤ 6 ∧ 0 ≤ y ∧ y ≤ 1)) ∨ (μ' = zup μ 51 0 2 ∧ (1 ≤ x ∧ x ≤ 6 ∧ 0 ≤ y ∧ y ≤ 1) ∧ aN a = 4)) ∧ (∀ q, (q < 51 ∨ q = 76) → μ' q = μ q)))) false 0 μ2 145 [some (zp 51), some (zi (n : Int)), some (zi (zB (!p))), none, some (zi (k : Int))] [] := by
                  intro d
                  induction d using Nat.strongRecOn with
                  | _ d ih145 =>
                    intro k μ2 hd2 hz2 ho2 hq2
                    refine zU_iload d_R_automaton_145 rfl ?_
                    refine zU_bipush d_R_automaton_147 (by decide) ?_
                    refine zU_icmp_ge 174 d_R_automaton_149 (by decide) (by omega) (by omega) (fun h149 => ?_) (fun h149 => ?_)
                    · have hqe : ∀ q, q ≠ 55 → q ≠ 56 → q ≠ 57 → μ2 q = μd q := fun q q1 q2 q3 => by rw [hq2 q q3, hq1 q q1 q2]
                      have hd51 : ∀ i, μd 51 i = rChg μ 0 51 i := fun i => by rw [hμd, zup_ne _ _ _ (by decide), zup_ne _ _ _ (by decide), zup_ne _ _ _ (by decide)]
                      have hμdq : ∀ q, (q < 51 ∨ 55 ≤ q) → μd q = μ q := fun q h => by rw [hμd, zup_ne _ _ _ (by omega), zup_ne _ _ _ (by omega), zup_ne _ _ _ (by omega), rChg_q μ 0 (by omega)]
                      refine zU_aload_n d_R_automaton_174 rfl ?_
                      refine zU_dup d_R_automaton_175 rfl ?_
                      refine zU_getI (v := (aN a : Int)) d_R_automaton_176 f_R_98 (by decide) rfl rfl (by rw [hq2 51 (by decide), hq1 51 (by decide) (by decide)]; exact hNd) ?_
                      refine zU_iconst d_R_automaton_179 ?_
                      refine zU_iadd d_R_automaton_180 ?_
                      refine zU_putI d_R_automaton_181 f_R_98 p_R_count (by decide) rfl rfl (Or.inl rfl) ?_
                      refine zU_aload_n d_R_automaton_184 rfl ?_
                      refine zU_getI (v := (aN a : Int) + 1) d_R_automaton_185 f_R_98 (by decide) rfl rfl (by rw [zup_at]; simp) ?_
                      refine zU_iconst d_R_automaton_188 ?_
                      refine zU_isub d_R_automaton_189 ?_
                      exact zU_ireturn d_R_automaton_190 (Or.inl rfl) (by decide) (by decide) (⟨_, rfl, Or.inl ⟨by rw [zup_at, if_neg (by decide), hqe 51 (by decide) (by decide) (by decide), hd51 0]; exact (rChg_0 μ 0).1, n, p, hxn, hyp, by omega, g2, by omega, rRep_add hc (by rw [zup_at]; simp) (fun j => by rw [zup_ne _ _ _ (by decide), hqe 52 (by decide) (by decide) (by decide), hμd, zup_ne _ _ _ (by decide), zup_ne _ _ _ (by decide), zup_at, rChg_q μ 0 (by decide)]; by_cases h : j = aN a <;> simp [h]) (fun j => by rw [zup_ne _ _ _ (by decide), hqe 53 (by decide) (by decide) (by decide), hμd, zup_ne _ _ _ (by decide), zup_at, zup_ne _ _ _ (by decide), rChg_q μ 0 (by decide)]; by_cases h : j = aN a <;> simp [h]) (fun j => by rw [zup_ne _ _ _ (by decide), hqe 54 (by decide) (by decide) (by decide), hμd, zup_at, zup_ne _ _ _ (by decide), zup_ne _ _ _ (by decide), rChg_q μ 0 (by decide)]; by_cases h : j = aN a <;> simp [h]) (fun j hj => by rw [zup_ne _ _ _ (by decide), zup_ne _ _ _ (by decide), hq2 55 (by decide), hq2 56 (by decide)]; exact hz1 j hj) (fun j hj => by rw [zup_ne _ _ _ (by decide), zup_ne _ _ _ (by decide), hq2 55 (by decide), hq2 56 (by decide), (ho1 j hj).1, (ho1 j hj).2, hμdq 55 (by decide), hμdq 56 (by decide)]; exact ⟨rfl, rfl⟩) (fun j hj => by rw [zup_ne _ _ _ (by decide)]; exact hz2 j (by omega)) (fun j hj => by rw [zup_ne _ _ _ (by decide), ho2 j hj, hμdq 57 (by decide)]) (by rw [zup_ne _ _ _ (by decide), hqe 58 (by decide) (by decide) (by decide), hμdq 58 (by decide)]) (by rw [zup_ne _ _ _ (by decide), hqe 59 (by decide) (by decide) (by decide), hμdq 59 (by decide)]), by rw [zup_at, if_neg (by decide), hqe 51 (by decide) (by decide) (by decide), hd51 17]; exact (rChg_0 μ 0).2.1, by rw [zup_at, if_neg (by decide), hqe 51 (by decide) (by decide) (by decide), hd51 18]; exact (rChg_0 μ 0).2.2⟩, fun q hq => by rw [zup_ne _ _ _ (by omega), hqe q (by omega) (by omega) (by omega), hμdq q (by omega)]⟩)
                    · refine zU_aload_n d_R_automaton_152 rfl ?_
                      refine zU_getR 57 d_R_automaton_153 f_R_26 (by decide) rfl rfl rfl ?_
                      refine zU_bipush d_R_automaton_156 (by decide) ?_
                      refine zU_aload_n d_R_automaton_158 rfl ?_
                      refine zU_getI (v := (aN a : Int)) d_R_automaton_159 f_R_98 (by decide) rfl rfl (by rw [hq2 51 (by decide), hq1 51 (by decide) (by decide)]; exact hNd) ?_
                      refine zU_imul d_R_automaton_162 ?_
                      refine zU_iload d_R_automaton_163 rfl ?_
                      refine zU_iadd d_R_automaton_165 ?_
                      refine zU_iconst d_R_automaton_166 ?_
                      refine zU_iast d_R_automaton_167 (by decide) rfl (by decide) (by omega) ?_
                      refine zU.eqM (μ' := zup μ2 57 (72 * aN a + k) (-1)) (by rw [show ((72 * (aN a : Int)) + (k : Int)).toNat = 72 * aN a + k by omega]) ?_
                      refine zU_iinc d_R_automaton_168 rfl ?_
                      refine zU.eqL (L' := [some (zp 51), some (zi (n : Int)), some (zi (zB (!p))), none, some (zi (((k + 1 : Nat) : Int)))]) (by first | rfl | exact congrArg (fun zz : Int => [some (zp 51), some (zi (n : Int)), some (zi (zB (!p))), none, some (zi zz)]) (show ((k : Int) + 1 : Int) = ((k + 1 : Nat) : Int) by omega)) ?_
                      refine zU_goto 145 d_R_automaton_171 (by decide) ?_
                      exact ih145 (d - 1) (by omega) (k + 1) _ (by omega) (fun j hj => by rw [zup_at]; by_cases h : j = k; { subst h; simp }; { rw [if_neg (by omega)]; exact hz2 j (by omega) }) (fun j hj => by rw [zup_at, if_neg (by omega)]; exact ho2 j hj) (fun q q1 => by rw [zup_ne _ _ _ q1]; exact hq2 q q1)
                exact hJ145 72 0 μ1 (by omega) (fun j hj => absurd hj (by omega)) (fun j hj => by rw [hq1 57 (by decide) (by decide)]) (fun _ _ => rfl)
              · refine zU_aload_n d_R_automaton_104 rfl ?_
                refine zU_getR 55 d_R_automaton_105 f_R_20 (by decide) rfl rfl rfl ?_
                refine zU_bipush d_R_automaton_108 (by decide) ?_
                refine zU_aload_n d_R_automaton_110 rfl ?_
                refine zU_getI (v := (aN a : Int)) d_R_automaton_111 f_R_98 (by decide) rfl rfl (by rw [hq1 51 (by decide) (by decide)]; exact hNd) ?_
                refine zU_imul d_R_automaton_114 ?_
                refine zU_iload d_R_automaton_115 rfl ?_
                refine zU_iadd d_R_automaton_117 ?_
                refine zU_iconst d_R_automaton_118 ?_
                refine zU_zast d_R_automaton_119 (by decide) rfl (by decide) (by omega) (by omega) ?_
                refine zU.eqM (μ' := zup μ1 55 (6 * aN a + k) 0) (by rw [show ((6 * (aN a : Int)) + (k : Int)).toNat = 6 * aN a + k by omega]) ?_
                refine zU_aload_n d_R_automaton_120 rfl ?_
                refine zU_getR 56 d_R_automaton_121 f_R_23 (by decide) rfl rfl rfl ?_
                refine zU_bipush d_R_automaton_124 (by decide) ?_
                refine zU_aload_n d_R_automaton_126 rfl ?_
                refine zU_getI (v := (aN a : Int)) d_R_automaton_127 f_R_98 (by decide) rfl rfl (by rw [zup_ne _ _ _ (by decide), hq1 51 (by decide) (by decide)]; exact hNd) ?_
                refine zU_imul d_R_automaton_130 ?_
                refine zU_iload d_R_automaton_131 rfl ?_
                refine zU_iadd d_R_automaton_133 ?_
                refine zU_iconst d_R_automaton_134 ?_
                refine zU_zast d_R_automaton_135 (by decide) rfl (by decide) (by omega) (by omega) ?_
                refine zU.eqM (μ' := zup (zup μ1 55 (6 * aN a + k) 0) 56 (6 * aN a + k) 0) (by rw [show ((6 * (aN a : Int)) + (k : Int)).toNat = 6 * aN a + k by omega]) ?_
                refine zU_iinc d_R_automaton_136 rfl ?_
                refine zU.eqL (L' := [some (zp 51), some (zi (n : Int)), some (zi (zB (!p))), none, some (zi (((k + 1 : Nat) : Int)))]) (by first | rfl | exact congrArg (fun zz : Int => [some (zp 51), some (zi (n : Int)), some (zi (zB (!p))), none, some (zi zz)]) (show ((k : Int) + 1 : Int) = ((k + 1 : Nat) : Int) by omega)) ?_
                refine zU_goto 97 d_R_automaton_139 (by decide) ?_
                exact ih97 (d - 1) (by omega) (k + 1) _ (by omega) (fun j hj => by rw [zup_ne _ _ _ (by decide), zup_at, zup_at]; by_cases h : j = k; { subst h; simp }; { rw [if_neg (by omega), if_neg (by omega), zup_ne _ _ _ (by decide)]; exact hz1 j (by omega) }) (fun j hj => by rw [zup_ne _ _ _ (by decide), zup_at, zup_at, if_neg (by omega), if_neg (by omega), zup_ne _ _ _ (by decide)]; exact ho1 j hj) (fun q q1 q2 => by rw [zup_ne _ _ _ q2, zup_ne _ _ _ q1]; exact hq1 q q1 q2)
          refine zU.drop 3 (L' := [some (zp 51), some (zi (n : Int)), some (zi (zB (!p))), none, some (zi 0)]) rfl ?_
          exact hJ97 6 0 μd (by omega) (fun j hj => absurd hj (by omega)) (fun _ _ => ⟨rfl, rfl⟩) (fun _ _ _ => rfl)
        refine zU_if_ne 82 d_R_automaton_75 (by decide) (zBr _) (fun h75 => ?_) (fun h75 => ?_)
        · have b75 := zB_nz.mp h75
          refine zU_iconst d_R_automaton_82 ?_
          refine zU.eqS (st' := [zi (zB (p)), zi ((aN a : Int)), zp 53]) (congrArg (fun zz : Int => [zi zz, zi ((aN a : Int)), zp 53]) (show (0 : Int) = zB (p) from (zBf (by cases p <;> simp at b75 ⊢)).symm)) ?_
          exact hJ83 
        · have b75 := zB_zero.mp h75
          refine zU_iconst d_R_automaton_78 ?_
          refine zU_goto 83 d_R_automaton_79 (by decide) ?_
          refine zU.eqS (st' := [zi (zB (p)), zi ((aN a : Int)), zp 53]) (congrArg (fun zz : Int => [zi zz, zi ((aN a : Int)), zp 53]) (show (1 : Int) = zB (p) from (zBt (by cases p <;> simp at b75 ⊢)).symm)) ?_
          exact hJ83 
      · have b47 := zB_nz.mp h47
        refine zU_iconst d_R_automaton_50 ?_
        exact zU_ireturn d_R_automaton_51 (Or.inl rfl) (by decide) (by decide) (⟨_, rfl, by cases hw : !decide (1 ≤ x ∧ x ≤ 6 ∧ 0 ≤ y ∧ y < 2); { rw [hw] at b47; simp only [Bool.false_or, Bool.not_false, Bool.true_and] at b47; refine Or.inr (Or.inr ⟨by rw [b47]; rfl, ?_, by simpa using b47⟩); have := nd_f hw; omega }; { refine Or.inr (Or.inl ⟨rfl, ?_⟩); have := nd_t hw; omega }, fun q hq => zup_ne _ _ _ (by omega)⟩)
    refine zU_if_ne 43 d_R_automaton_28 (by decide) (zBr _) (fun h28 => ?_) (fun h28 => ?_)
    · have b28 := zB_nz.mp h28
      refine zU_iconst d_R_automaton_43 ?_
      refine zU.eqS (st' := [zi (zB (!(!decide (1 ≤ x ∧ x ≤ 6 ∧ 0 ≤ y ∧ y < 2)) && decide (aN a = 4))), zi (zB (!decide (1 ≤ x ∧ x ≤ 6 ∧ 0 ≤ y ∧ y < 2))), zp 51]) (congrArg (fun zz : Int => [zi zz, zi (zB (!decide (1 ≤ x ∧ x ≤ 6 ∧ 0 ≤ y ∧ y < 2))), zp 51]) (show (0 : Int) = zB (!(!decide (1 ≤ x ∧ x ≤ 6 ∧ 0 ≤ y ∧ y < 2)) && decide (aN a = 4)) from (zBf (by rw [b28]; rfl)).symm)) ?_
      exact hJ44 
    · have b28 := zB_zero.mp h28
      refine zU_aload_n d_R_automaton_31 rfl ?_
      refine zU_getI (v := (aN a : Int)) d_R_automaton_32 f_R_98 (by decide) rfl rfl (hN) ?_
      refine zU_iconst d_R_automaton_35 ?_
      refine zU_icmp_ne 43 d_R_automaton_36 (by decide) (by omega) (by omega) (fun h36 => ?_) (fun h36 => ?_)
      · refine zU_iconst d_R_automaton_43 ?_
        refine zU.eqS (st' := [zi (zB (!(!decide (1 ≤ x ∧ x ≤ 6 ∧ 0 ≤ y ∧ y < 2)) && decide (aN a = 4))), zi (zB (!decide (1 ≤ x ∧ x ≤ 6 ∧ 0 ≤ y ∧ y < 2))), zp 51]) (congrArg (fun zz : Int => [zi zz, zi (zB (!decide (1 ≤ x ∧ x ≤ 6 ∧ 0 ≤ y ∧ y < 2))), zp 51]) (show (0 : Int) = zB (!(!decide (1 ≤ x ∧ x ≤ 6 ∧ 0 ≤ y ∧ y < 2)) && decide (aN a = 4)) from (zBf (by have : ¬ aN a = 4 := (by omega); simp [this])).symm)) ?_
        exact hJ44 
      · refine zU_iconst d_R_automaton_39 ?_
        refine zU_goto 44 d_R_automaton_40 (by decide) ?_
        refine zU.eqS (st' := [zi (zB (!(!decide (1 ≤ x ∧ x ≤ 6 ∧ 0 ≤ y ∧ y < 2)) && decide (aN a = 4))), zi (zB (!decide (1 ≤ x ∧ x ≤ 6 ∧ 0 ≤ y ∧ y < 2))), zp 51]) (congrArg (fun zz : Int => [zi zz, zi (zB (!decide (1 ≤ x ∧ x ≤ 6 ∧ 0 ≤ y ∧ y < 2))), zp 51]) (show (1 : Int) = zB (!(!decide (1 ≤ x ∧ x ≤ 6 ∧ 0 ≤ y ∧ y < 2)) && decide (aN a = 4)) from (zBt (by have h9 : aN a = 4 := (by omega); rw [b28]; simp [h9])).symm)) ?_
        exact hJ44 
  refine zU_icmp_lt 19 d_R_automaton_2 (by decide) (by omega) (by omega) (fun h2 => ?_) (fun h2 => ?_)
  · refine zU_iconst d_R_automaton_19 ?_
    refine zU_goto 24 d_R_automaton_20 (by decide) ?_
    refine zU.eqS (st' := [zi (zB (!decide (1 ≤ x ∧ x ≤ 6 ∧ 0 ≤ y ∧ y < 2)))]) (congrArg (fun zz : Int => [zi zz]) (show (1 : Int) = zB (!decide (1 ≤ x ∧ x ≤ 6 ∧ 0 ≤ y ∧ y < 2)) from (zBt (by have : ¬ (1 ≤ x ∧ x ≤ 6 ∧ 0 ≤ y ∧ y < 2) := (by omega); simp [this])).symm)) ?_
    exact hJ24 
  · refine zU_iload_n d_R_automaton_5 rfl ?_
    refine zU_bipush d_R_automaton_6 (by decide) ?_
    refine zU_icmp_gt 19 d_R_automaton_8 (by decide) (by omega) (by omega) (fun h8 => ?_) (fun h8 => ?_)
    · refine zU_iconst d_R_automaton_19 ?_
      refine zU_goto 24 d_R_automaton_20 (by decide) ?_
      refine zU.eqS (st' := [zi (zB (!decide (1 ≤ x ∧ x ≤ 6 ∧ 0 ≤ y ∧ y < 2)))]) (congrArg (fun zz : Int => [zi zz]) (show (1 : Int) = zB (!decide (1 ≤ x ∧ x ≤ 6 ∧ 0 ≤ y ∧ y < 2)) from (zBt (by have : ¬ (1 ≤ x ∧ x ≤ 6 ∧ 0 ≤ y ∧ y < 2) := (by omega); simp [this])).symm)) ?_
      exact hJ24 
    · refine zU_iload_n d_R_automaton_11 rfl ?_
      refine zU_iconst d_R_automaton_12 ?_
      refine zU_callSi [zi y, zi 2] d_R_automaton_13 k_R_94 rfl (by decide) (Nat.le_of_ble_eq_true rfl) (fun l => m_R_out l μ hy (by omega)) (fun r13 μ13 h13 => ?_)
      obtain ⟨hμ13, rfl⟩ := h13
      replace hμ13 := hμ13.symm
      subst hμ13
      refine zU_if_eq 23 d_R_automaton_16 (by decide) (zBr _) (fun h16 => ?_) (fun h16 => ?_)
      · have b16 := zB_zero.mp h16
        refine zU_iconst d_R_automaton_23 ?_
        refine zU.eqS (st' := [zi (zB (!decide (1 ≤ x ∧ x ≤ 6 ∧ 0 ≤ y ∧ y < 2)))]) (congrArg (fun zz : Int => [zi zz]) (show (0 : Int) = zB (!decide (1 ≤ x ∧ x ≤ 6 ∧ 0 ≤ y ∧ y < 2)) from (zBf (by have := nd_f b16; have : (1 ≤ x ∧ x ≤ 6 ∧ 0 ≤ y ∧ y < 2) := (by omega); simp [this])).symm)) ?_
        exact hJ24 
      · have b16 := zB_nz.mp h16
        refine zU_iconst d_R_automaton_19 ?_
        refine zU_goto 24 d_R_automaton_20 (by decide) ?_
        refine zU.eqS (st' := [zi (zB (!decide (1 ≤ x ∧ x ≤ 6 ∧ 0 ≤ y ∧ y < 2)))]) (congrArg (fun zz : Int => [zi zz]) (show (1 : Int) = zB (!decide (1 ≤ x ∧ x ≤ 6 ∧ 0 ≤ y ∧ y < 2)) from (zBt (by have := nd_t b16; have : ¬ (1 ≤ x ∧ x ≤ 6 ∧ 0 ≤ y ∧ y < 2) := (by omega); simp [this])).symm)) ?_
        exact hJ24 
