theorem rConf_r {a : aT} {i j : Nat} {r : Int} (h : rConf a i j r) : -1 ≤ r ∧ r ≤ 1 := by
  rcases h with ⟨h1, _⟩ | ⟨h1, _⟩ | ⟨N1, K1, M1, N2, K2, M2, h1, h2, h3, ⟨h4, _⟩ | ⟨n, _, _, ⟨h4, _⟩ | ⟨h4, _⟩⟩⟩ <;> omega
set_option maxRecDepth 100000 in
set_option maxHeartbeats 4000000 in
theorem m_L_automaton (l : Launch) (μ : zM) {a : aT} {v : vT} (hW : cWor a v μ) {x : Int} (hx : -2147483648 ≤ x ∧ x ≤ 2147483647) {y : Int} (hy : -2147483648 ≤ y ∧ y ≤ 2147483647) :
    zC l y_L_automaton b_L_automaton 5 (some .int) [(0, 10, 13, 13), (0, 10, 17, 15)] 7 1 103 false [zp 0, zi x, zi y, zp 76] μ (zRi (fun t μ' => (∃ r a' v', aAuto a v x y t r a' v' ∧ cWor a' v' μ' ∧ (t = 0 → μ' 76 0 = r ∧ -2147483648 ≤ r ∧ r ≤ 2147483647)) ∧ ∀ q, 51 ≤ q → q ≠ 76 → μ' q = μ q)) := by
  refine zC.of (own := n_L) (L := [some (zp 0), some (zi x), some (zi y), some (zp 76), none]) (by decide) rfl (by simp [zcat]) (Nat.le_of_ble_eq_true rfl) rfl (fun Γ => ?_)
  refine zU_aload_n d_L_automaton_0 rfl ?_
  refine zU_iconst d_L_automaton_1 ?_
  refine zU_aload_n d_L_automaton_2 rfl ?_
  refine zU_iload_n d_L_automaton_3 rfl ?_
  refine zU_iload_n d_L_automaton_4 rfl ?_
  refine zU_callVit (p0 := 0) [zi x, zi y] d_L_automaton_5 k_L_7 rfl (by decide) rfl rfl (by decide) (Nat.le_of_ble_eq_true rfl) (fun l => m_C_automaton l μ hW.1 hW.2.1 hx hy) (fun r5 μ5 h5 => ?_) (fun k μt ht => by { obtain ⟨hμt, hkt⟩ := ht; subst hμt; rcases hkt with ⟨hk, hn⟩ | ⟨hk, hn⟩; { subst hk; exact zcatchw (k := 0) (i := 0) (hpc := 13) (iL := 4) [0, 1] (by decide) cs_0 rfl (zall2 ⟨⟨by decide, by decide⟩, by decide, by decide, cl_L_13⟩ ⟨⟨by decide, by decide⟩, by decide, by decide, cl_L_15⟩) rfl rfl d_L_automaton_13 (by decide) (zU_iconst d_L_automaton_15 (zU_ireturn d_L_automaton_16 (Or.inl rfl) (by decide) (by decide) ⟨_, rfl, ⟨0, a, v, Or.inr (Or.inl ⟨rfl, hn, rfl, rfl⟩), hW, fun h => absurd h (by decide)⟩, fun _ _ _ => rfl⟩)) }; { subst hk; exact zcatchw (k := 1) (i := 1) (hpc := 17) (iL := 4) [0, 1] (by decide) cs_1 rfl (zall2 ⟨⟨by decide, by decide⟩, by decide, by decide, cl_L_13⟩ ⟨⟨by decide, by decide⟩, by decide, by decide, cl_L_15⟩) rfl rfl d_L_automaton_17 (by decide) (zU_iconst d_L_automaton_19 (zU_ireturn d_L_automaton_20 (Or.inl rfl) (by decide) (by decide) ⟨_, rfl, ⟨0, a, v, Or.inr (Or.inr ⟨rfl, hn.1, hn.2, rfl, rfl⟩), hW, fun h => absurd h (by decide)⟩, fun _ _ _ => rfl⟩)) } })
  obtain ⟨n, p, b1, b2, b3, b4, b5, b6, b7, b8⟩ := h5
  have hA : aAuto a v x y 0 r5 (aAdd a n p) none := Or.inl ⟨rfl, n, p, b1, b2, b3, b4, b5, rfl, rfl⟩
  have hW5 : cWor (aAdd a n p) none μ5 := cWor_new hW (aOk_add hW.1 b4 b3) b6 b7 (fun q h1 h2 => b8 q (by omega) (by omega) (by omega) (by omega))
  have hrr : -2147483648 ≤ r5 ∧ r5 ≤ 2147483647 := by omega
  refine zU_i2l d_L_automaton_8 (hrr) ?_
  refine zU_last d_L_automaton_9 (by decide) rfl (by decide) (by omega) ?_
  refine zU_goto 21 d_L_automaton_10 (by decide) ?_
  refine zU_iconst d_L_automaton_21 ?_
  exact zU_ireturn d_L_automaton_22 (Or.inl rfl) (by decide) (by decide) (⟨_, rfl, ⟨r5, _, _, hA, cWor_fr hW5 (fun q hq => zup_ne _ _ _ (by omega)), fun _ => ⟨by rw [zup_at]; simp, hrr⟩⟩, fun q h1 h2 => by rw [zup_ne _ _ _ h2]; exact b8 q (by omega) (by omega) (by omega) (by omega)⟩)
set_option maxRecDepth 100000 in
set_option maxHeartbeats 4000000 in
theorem m_L_event (l : Launch) (μ : zM) {a : aT} {v : vT} (hW : cWor a v μ) {on : Bool} {x : Int} (hx : -2147483648 ≤ x ∧ x ≤ 2147483647) :
    zC l y_L_event b_L_event 5 (some .int) [(0, 17, 20, 13), (0, 17, 24, 15)] 8 2 123 false [zp 0, zi x, zi (zB on), zp 76] μ (zRi (fun t μ' => (∃ r a' v', aEvt a v x on t r a' v' ∧ cWor a' v' μ' ∧ (t = 0 → μ' 76 0 = r ∧ -2147483648 ≤ r ∧ r ≤ 2147483647)) ∧ ∀ q, 51 ≤ q → q ≠ 76 → μ' q = μ q)) := by
  refine zC.of (own := n_L) (L := [some (zp 0), some (zi x), some (zi (zB on)), some (zp 76), none]) (by decide) rfl (by simp [zcat]) (Nat.le_of_ble_eq_true rfl) rfl (fun Γ => ?_)
  refine zU_aload_n d_L_event_0 rfl ?_
  refine zU_iconst d_L_event_1 ?_
  refine zU_aload_n d_L_event_2 rfl ?_
  refine zU_iload_n d_L_event_3 rfl ?_
  refine zU_iload_n d_L_event_4 rfl ?_
  refine zU_callVit (p0 := 0) [zi x, zi (zB on)] d_L_event_5 k_L_17 rfl (by decide) rfl rfl (by decide) (Nat.le_of_ble_eq_true rfl) (fun l => m_C_event l μ hW.1 hW.2.1 (on := on) hx) (fun r5 μ5 h5 => ?_) (fun k μt ht => by { obtain ⟨hμt, hkt⟩ := ht; subst hμt; rcases hkt with ⟨hk, hn⟩ | ⟨hk, hn⟩; { subst hk; exact zcatchw (k := 0) (i := 0) (hpc := 20) (iL := 4) [0, 1] (by decide) cs_0 rfl (zall2 ⟨⟨by decide, by decide⟩, by decide, by decide, cl_L_13⟩ ⟨⟨by decide, by decide⟩, by decide, by decide, cl_L_15⟩) rfl rfl d_L_event_20 (by decide) (zU_iconst d_L_event_22 (zU_ireturn d_L_event_23 (Or.inl rfl) (by decide) (by decide) ⟨_, rfl, ⟨0, a, v, Or.inr (Or.inl ⟨rfl, hn, rfl, rfl⟩), hW, fun h => absurd h (by decide)⟩, fun _ _ _ => rfl⟩)) }; { subst hk; exact zcatchw (k := 1) (i := 1) (hpc := 24) (iL := 4) [0, 1] (by decide) cs_1 rfl (zall2 ⟨⟨by decide, by decide⟩, by decide, by decide, cl_L_13⟩ ⟨⟨by decide, by decide⟩, by decide, by decide, cl_L_15⟩) rfl rfl d_L_event_24 (by decide) (zU_iconst d_L_event_26 (zU_ireturn d_L_event_27 (Or.inl rfl) (by decide) (by decide) ⟨_, rfl, ⟨0, a, v, (by obtain ⟨e, b1, b2, b3, b4⟩ := hn; exact Or.inr (Or.inr ⟨rfl, e, b1, b2, b3, b4, rfl, rfl⟩)), hW, fun h => absurd h (by decide)⟩, fun _ _ _ => rfl⟩)) } })
  obtain ⟨a', v', hA, hW5, hr5, hq5⟩ : ∃ a' v', aEvt a v x on 0 r5 a' v' ∧ cWor a' v' μ5 ∧ (r5 = 0 ∨ r5 = 1) ∧ ∀ q, 51 ≤ q → μ5 q = μ q := by
    obtain ⟨e, b1, b2, ⟨b3, b4, b5, b6⟩ | ⟨b3, b4, b5, b6, b7⟩⟩ := h5
    · exact ⟨a, v, Or.inl ⟨rfl, e, b1, b2, Or.inl ⟨b3, b4, b5, rfl, rfl⟩⟩, by rw [b6]; exact hW, Or.inl b5, fun _ _ => by rw [b6]⟩
    · exact ⟨_, none, Or.inl ⟨rfl, e, b1, b2, Or.inr ⟨b3, b4, rfl, rfl⟩⟩, cWor_new hW (aOk_decl hW.1) b5 b6 (fun q h1 h2 => b7 q (by omega) (by omega)), Or.inr b4, fun q hq => b7 q (by omega) (by omega)⟩
  refine zU_if_eq 15 d_L_event_8 (by decide) (by omega) (fun h8 => ?_) (fun h8 => ?_)
  · refine zU_lconst (v := 0) d_L_event_15 rfl ?_
    refine zU_last d_L_event_16 (by decide) rfl (by decide) (by omega) ?_
    refine zU_goto 28 d_L_event_17 (by decide) ?_
    refine zU_iconst d_L_event_28 ?_
    exact zU_ireturn d_L_event_29 (Or.inl rfl) (by decide) (by decide) (⟨_, rfl, ⟨r5, a', v', hA, cWor_fr hW5 (fun q hq => zup_ne _ _ _ (by omega)), fun _ => ⟨by rw [zup_at]; simp; omega, by omega, by omega⟩⟩, fun q h1 h2 => by rw [zup_ne _ _ _ h2]; exact hq5 q h1⟩)
  · refine zU_lconst (v := 1) d_L_event_11 rfl ?_
    refine zU_goto 16 d_L_event_12 (by decide) ?_
    refine zU_last d_L_event_16 (by decide) rfl (by decide) (by omega) ?_
    refine zU_goto 28 d_L_event_17 (by decide) ?_
    refine zU_iconst d_L_event_28 ?_
    exact zU_ireturn d_L_event_29 (Or.inl rfl) (by decide) (by decide) (⟨_, rfl, ⟨r5, a', v', hA, cWor_fr hW5 (fun q hq => zup_ne _ _ _ (by omega)), fun _ => ⟨by rw [zup_at]; simp; omega, by omega, by omega⟩⟩, fun q h1 h2 => by rw [zup_ne _ _ _ h2]; exact hq5 q h1⟩)
set_option maxRecDepth 100000 in
set_option maxHeartbeats 4000000 in
theorem m_L_edge (l : Launch) (μ : zM) {a : aT} {v : vT} (hW : cWor a v μ) {x : Int} (hx : -2147483648 ≤ x ∧ x ≤ 2147483647) {s : Int} (hs : -2147483648 ≤ s ∧ s ≤ 2147483647) {e : Int} (he : -2147483648 ≤ e ∧ e ≤ 2147483647) {y : Int} (hy : -2147483648 ≤ y ∧ y ≤ 2147483647) :
    zC l y_L_edge b_L_edge 6 (some .int) [(0, 9, 12, 13), (0, 9, 16, 15)] 8 2 125 false [zp 0, zi x, zi s, zi e, zi y] μ (zRi (fun t μ' => (∃ a' v', aEdg a v x s e y t a' v' ∧ cWor a' v' μ') ∧ ∀ q, 51 ≤ q → μ' q = μ q)) := by
  refine zC.of (own := n_L) (L := [some (zp 0), some (zi x), some (zi s), some (zi e), some (zi y), none]) (by decide) rfl (by simp [zcat]) (Nat.le_of_ble_eq_true rfl) rfl (fun Γ => ?_)
  refine zU_aload_n d_L_edge_0 rfl ?_
  refine zU_iload_n d_L_edge_1 rfl ?_
  refine zU_iload_n d_L_edge_2 rfl ?_
  refine zU_iload_n d_L_edge_3 rfl ?_
  refine zU_iload d_L_edge_4 rfl ?_
  refine zU_callVvt (p0 := 0) [zi x, zi s, zi e, zi y] d_L_edge_6 k_L_21 rfl (by decide) rfl rfl (by decide) (Nat.le_of_ble_eq_true rfl) (fun l => m_C_edge l μ hW.1 hW.2.1 hx hs he hy) (fun μ6 h6 => ?_) (fun k μt ht => by { obtain ⟨hμt, hkt⟩ := ht; subst hμt; rcases hkt with ⟨hk, hn⟩ | ⟨hk, hn⟩; { subst hk; exact zcatchw (k := 0) (i := 0) (hpc := 12) (iL := 5) [0, 1] (by decide) cs_0 rfl (zall2 ⟨⟨by decide, by decide⟩, by decide, by decide, cl_L_13⟩ ⟨⟨by decide, by decide⟩, by decide, by decide, cl_L_15⟩) rfl rfl d_L_edge_12 (by decide) (zU_iconst d_L_edge_14 (zU_ireturn d_L_edge_15 (Or.inl rfl) (by decide) (by decide) ⟨_, rfl, ⟨a, v, Or.inr (Or.inl ⟨rfl, hn, rfl, rfl⟩), hW⟩, fun _ _ => rfl⟩)) }; { subst hk; exact zcatchw (k := 1) (i := 1) (hpc := 16) (iL := 5) [0, 1] (by decide) cs_1 rfl (zall2 ⟨⟨by decide, by decide⟩, by decide, by decide, cl_L_13⟩ ⟨⟨by decide, by decide⟩, by decide, by decide, cl_L_15⟩) rfl rfl d_L_edge_16 (by decide) (zU_iconst d_L_edge_18 (zU_ireturn d_L_edge_19 (Or.inl rfl) (by decide) (by decide) ⟨_, rfl, ⟨a, v, Or.inr (Or.inr ⟨rfl, hn.1, hn.2, rfl, rfl⟩), hW⟩, fun _ _ => rfl⟩)) } })
  obtain ⟨i, s', e', t', b1, b2, b3, b4, b5, b6, b7, b8, b9, b10, b11, b12, b13⟩ := h6
  have hi4 := hW.1.1
  refine zU_goto 20 d_L_edge_9 (by decide) ?_
  refine zU_iconst d_L_edge_20 ?_
  exact zU_ireturn d_L_edge_21 (Or.inl rfl) (by decide) (by decide) (⟨_, rfl, ⟨_, none, Or.inl ⟨rfl, i, s', e', t', b1, b2, b3, b4, b5, b6, b7, b8, b9, b10, rfl, rfl⟩, cWor_new hW (aOk_edge hW.1 b5 b6 ⟨by omega, by omega⟩ b9) b11 b12 (fun q h1 h2 => b13 q (by omega) (by omega) (by omega) (by omega))⟩, fun q hq => b13 q (by omega) (by omega) (by omega) (by omega)⟩)
set_option maxRecDepth 100000 in
set_option maxHeartbeats 4000000 in
theorem m_L_tell (l : Launch) (μ : zM) {a : aT} {v : vT} (hW : cWor a v μ) {on : Bool} {x : Int} (hx : -2147483648 ≤ x ∧ x ≤ 2147483647) {s : Int} (hs : -2147483648 ≤ s ∧ s ≤ 2147483647) {w : Int} (hw : -2147483648 ≤ w ∧ w ≤ 2147483647) :
    zC l y_L_tell b_L_tell 6 (some .int) [(0, 9, 12, 13)] 7 1 105 false [zp 0, zi x, zi s, zi w, zi (zB on)] μ (zRi (fun t μ' => (∃ a' v', aTel a v x s w on t a' v' ∧ cWor a' v' μ') ∧ ∀ q, 51 ≤ q → μ' q = μ q)) := by
  refine zC.of (own := n_L) (L := [some (zp 0), some (zi x), some (zi s), some (zi w), some (zi (zB on)), none]) (by decide) rfl (by simp [zcat]) (Nat.le_of_ble_eq_true rfl) rfl (fun Γ => ?_)
  refine zU_aload_n d_L_tell_0 rfl ?_
  refine zU_iload_n d_L_tell_1 rfl ?_
  refine zU_iload_n d_L_tell_2 rfl ?_
  refine zU_iload_n d_L_tell_3 rfl ?_
  refine zU_iload d_L_tell_4 rfl ?_
  refine zU_callVvt (p0 := 0) [zi x, zi s, zi w, zi (zB on)] d_L_tell_6 k_L_25 rfl (by decide) rfl rfl (by decide) (Nat.le_of_ble_eq_true rfl) (fun l => m_C_tell l μ hW.1 hW.2.1 (on := on) hx hs hw) (fun μ6 h6 => ?_) (fun k μt ht => by { obtain ⟨hμt, hk, hn⟩ := ht; subst hμt; subst hk; exact zcatchw (k := 0) (i := 0) (hpc := 12) (iL := 5) [0] (by decide) cs_0 rfl (zall1 ⟨⟨by decide, by decide⟩, by decide, by decide, cl_L_13⟩) rfl rfl d_L_tell_12 (by decide) (zU_iconst d_L_tell_14 (zU_ireturn d_L_tell_15 (Or.inl rfl) (by decide) (by decide) ⟨_, rfl, ⟨a, v, Or.inr ⟨rfl, hn, rfl, rfl⟩, hW⟩, fun _ _ => rfl⟩)) })
  obtain ⟨i, s', w', b1, b2, b3, b4, b5, b6, b7, b8, b9⟩ := h6
  have hi4 := hW.1.1
  refine zU_goto 16 d_L_tell_9 (by decide) ?_
  refine zU_iconst d_L_tell_16 ?_
  exact zU_ireturn d_L_tell_17 (Or.inl rfl) (by decide) (by decide) (⟨_, rfl, ⟨_, none, Or.inl ⟨rfl, i, s', w', b1, b2, b3, b4, b5, b6, rfl, rfl⟩, cWor_new hW (aOk_tell hW.1 b4 b5) b7 b8 (fun q h1 h2 => b9 q (by omega) (by omega))⟩, fun q hq => b9 q (by omega) (by omega)⟩)
set_option maxRecDepth 100000 in
set_option maxHeartbeats 4000000 in
theorem m_L_conflict (l : Launch) (μ : zM) {a : aT} {v : vT} (hW : cWor a v μ) {x : Int} (hx : -2147483648 ≤ x ∧ x ≤ 2147483647) {y : Int} (hy : -2147483648 ≤ y ∧ y ≤ 2147483647) :
    zC l y_L_conflict b_L_conflict 5 (some .int) [(0, 10, 13, 13)] 7 1 162 false [zp 0, zi x, zi y, zp 76] μ (zRi (fun t μ' => (∃ r, aConf a x y t r ∧ cWor a v μ' ∧ (t = 0 → μ' 76 0 = r ∧ -2147483648 ≤ r ∧ r ≤ 2147483647)) ∧ ∀ q, 51 ≤ q → q ≠ 76 → μ' q = μ q)) := by
  refine zC.of (own := n_L) (L := [some (zp 0), some (zi x), some (zi y), some (zp 76), none]) (by decide) rfl (by simp [zcat]) (Nat.le_of_ble_eq_true rfl) rfl (fun Γ => ?_)
  refine zU_aload_n d_L_conflict_0 rfl ?_
  refine zU_iconst d_L_conflict_1 ?_
  refine zU_aload_n d_L_conflict_2 rfl ?_
  refine zU_iload_n d_L_conflict_3 rfl ?_
  refine zU_iload_n d_L_conflict_4 rfl ?_
  refine zU_callVit (p0 := 0) [zi x, zi y] d_L_conflict_5 k_L_51 rfl (by decide) rfl rfl (by decide) (Nat.le_of_ble_eq_true rfl) (fun l => m_C_conflict l μ hW hx hy) (fun r5 μ5 h5 => ?_) (fun k μt ht => by { obtain ⟨hμt, hk, hn⟩ := ht; subst hμt; subst hk; exact zcatchw (k := 0) (i := 0) (hpc := 13) (iL := 4) [0] (by decide) cs_0 rfl (zall1 ⟨⟨by decide, by decide⟩, by decide, by decide, cl_L_13⟩) rfl rfl d_L_conflict_13 (by decide) (zU_iconst d_L_conflict_15 (zU_ireturn d_L_conflict_16 (Or.inl rfl) (by decide) (by decide) ⟨_, rfl, ⟨0, Or.inr ⟨rfl, hn⟩, hW, fun h => absurd h (by decide)⟩, fun _ _ _ => rfl⟩)) })
  obtain ⟨hr, hW5, hq5⟩ := h5
  have hA : aConf a x y 0 r5 := Or.inl ⟨rfl, hr⟩
  have hrr : -2147483648 ≤ r5 ∧ r5 ≤ 2147483647 := by obtain ⟨i, j, b1, b2, b3, b4, b5⟩ := hr; have := rConf_r b5; omega
  refine zU_i2l d_L_conflict_8 (hrr) ?_
  refine zU_last d_L_conflict_9 (by decide) rfl (by decide) (by omega) ?_
  refine zU_goto 17 d_L_conflict_10 (by decide) ?_
  refine zU_iconst d_L_conflict_17 ?_
  exact zU_ireturn d_L_conflict_18 (Or.inl rfl) (by decide) (by decide) (⟨_, rfl, ⟨r5, hA, cWor_fr hW5 (fun q hq => zup_ne _ _ _ (by omega)), fun _ => ⟨by rw [zup_at]; simp, hrr⟩⟩, fun q h1 h2 => by rw [zup_ne _ _ _ h2]; exact hq5 q h1⟩)
set_option maxRecDepth 100000 in
set_option maxHeartbeats 4000000 in
theorem m_L_act (l : Launch) (μ : zM) {a : aT} {v : vT} (hW : cWor a v μ) {y : Int} (hy : -2147483648 ≤ y ∧ y ≤ 2147483647) :
    zC l y_L_act b_L_act 4 (some .int) [(0, 9, 12, 15), (0, 9, 15, 13)] 8 2 123 false [zp 0, zi y, zp 76] μ (zRi (fun t μ' => (∃ r v', aAct a v y t r v' ∧ cWor a v' μ' ∧ (t = 0 → μ' 76 0 = r ∧ -2147483648 ≤ r ∧ r ≤ 2147483647)) ∧ ∀ q, 51 ≤ q → q ≠ 76 → μ' q = μ q)) := by
  refine zC.of (own := n_L) (L := [some (zp 0), some (zi y), some (zp 76), none]) (by decide) rfl (by simp [zcat]) (Nat.le_of_ble_eq_true rfl) rfl (fun Γ => ?_)
  refine zU_aload_n d_L_act_0 rfl ?_
  refine zU_iconst d_L_act_1 ?_
  refine zU_aload_n d_L_act_2 rfl ?_
  refine zU_iload_n d_L_act_3 rfl ?_
  refine zU_callVit (p0 := 0) [zi y] d_L_act_4 k_L_54 rfl (by decide) rfl rfl (by decide) (Nat.le_of_ble_eq_true rfl) (fun l => m_C_act l μ hW hy) (fun r4 μ4 h4 => ?_) (fun k μt ht => by { obtain ⟨hμt, hkt⟩ := ht; subst hμt; rcases hkt with ⟨hk, hn⟩ | ⟨hk, hn⟩; { subst hk; exact zcatch (k := 1) (i := 0) (hpc := 12) (iL := 3) [1, 0] (by decide) cs_1 rfl (zall2 ⟨⟨by decide, by decide⟩, by decide, by decide, cl_L_15⟩ ⟨⟨by decide, by decide⟩, by decide, by decide, cl_L_13⟩) rfl rfl d_L_act_12 (by decide) (zU_iconst d_L_act_13 (zU_ireturn d_L_act_14 (Or.inl rfl) (by decide) (by decide) ⟨_, rfl, ⟨0, v, Or.inr (Or.inl ⟨rfl, hn, rfl⟩), hW, fun h => absurd h (by decide)⟩, fun _ _ _ => rfl⟩)) }; { subst hk; exact zcatch (k := 0) (i := 1) (hpc := 15) (iL := 3) [1, 0] (by decide) cs_0 rfl (zall2 ⟨⟨by decide, by decide⟩, by decide, by decide, cl_L_15⟩ ⟨⟨by decide, by decide⟩, by decide, by decide, cl_L_13⟩) rfl rfl d_L_act_15 (by decide) (zU_iconst d_L_act_16 (zU_ireturn d_L_act_17 (Or.inl rfl) (by decide) (by decide) ⟨_, rfl, ⟨0, v, Or.inr (Or.inr ⟨rfl, hn.1, hn.2, rfl⟩), hW, fun h => absurd h (by decide)⟩, fun _ _ _ => rfl⟩)) } })
  obtain ⟨hr, hq5⟩ := h4
  obtain ⟨v', hA, hW5, hrr⟩ : ∃ v', aAct a v y 0 r4 v' ∧ cWor a v' μ4 ∧ (0 ≤ r4 ∧ r4 ≤ 2) := by
    obtain ⟨N, K, M, p, k, e, b1, b2, b3, b4, b5, ⟨d1, d2, p', d3, d4, d5⟩ | ⟨d1, d2, d3, d4⟩ | ⟨d1, d2, d3, d4⟩⟩ := hr
    · exact ⟨_, Or.inl ⟨rfl, N, K, M, p, k, e, b1, b2, b3, b4, b5, Or.inl ⟨d1, d2, p', d3, d4, rfl⟩⟩, d5, by omega⟩
    · exact ⟨v, Or.inl ⟨rfl, N, K, M, p, k, e, b1, b2, b3, b4, b5, Or.inr (Or.inl ⟨d1, d2, d3, rfl⟩)⟩, by rw [d4]; exact hW, by omega⟩
    · exact ⟨v, Or.inl ⟨rfl, N, K, M, p, k, e, b1, b2, b3, b4, b5, Or.inr (Or.inr ⟨d1, d2, d3, rfl⟩)⟩, by rw [d4]; exact hW, by omega⟩
  refine zU_i2l d_L_act_7 (by omega) ?_
  refine zU_last d_L_act_8 (by decide) rfl (by decide) (by omega) ?_
  refine zU_goto 18 d_L_act_9 (by decide) ?_
  refine zU_iconst d_L_act_18 ?_
  exact zU_ireturn d_L_act_19 (Or.inl rfl) (by decide) (by decide) (⟨_, rfl, ⟨r4, v', hA, cWor_fr hW5 (fun q hq => zup_ne _ _ _ (by omega)), fun _ => ⟨by rw [zup_at]; simp, by omega, by omega⟩⟩, fun q h1 h2 => by rw [zup_ne _ _ _ h2]; exact hq5 q (by omega)⟩)
set_option maxRecDepth 100000 in
set_option maxHeartbeats 4000000 in
theorem m_L_reset (l : Launch) (μ : zM) {a : aT} {v : vT} (hW : cWor a v μ) :
    zC l y_L_reset b_L_reset 2 (some .int) [(0, 4, 7, 15)] 8 1 121 false [zp 0] μ (zRi (fun t μ' => (∃ v', aReset v t v' ∧ cWor a v' μ') ∧ ∀ q, 51 ≤ q → μ' q = μ q)) := by
  refine zC.of (own := n_L) (L := [some (zp 0), none]) (by decide) rfl (by simp [zcat]) (Nat.le_of_ble_eq_true rfl) rfl (fun Γ => ?_)
  refine zU_aload_n d_L_reset_0 rfl ?_
  refine zU_callVvt (p0 := 0) [] d_L_reset_1 k_L_57 rfl (by decide) rfl rfl (by decide) (Nat.le_of_ble_eq_true rfl) (fun l => m_C_reset l μ hW) (fun μ1 h1 => ?_) (fun k μt ht => by { obtain ⟨hμt, hk, hn⟩ := ht; subst hμt; subst hk; exact zcatch (k := 1) (i := 0) (hpc := 7) (iL := 1) [1] (by decide) cs_1 rfl (zall1 ⟨⟨by decide, by decide⟩, by decide, by decide, cl_L_15⟩) rfl rfl d_L_reset_7 (by decide) (zU_iconst d_L_reset_8 (zU_ireturn d_L_reset_9 (Or.inl rfl) (by decide) (by decide) ⟨_, rfl, ⟨v, Or.inr ⟨rfl, hn, rfl⟩, hW⟩, fun _ _ => rfl⟩)) })
  obtain ⟨⟨N, K, M, p, b1, b2, b3⟩, hq5⟩ := h1
  refine zU_goto 10 d_L_reset_4 (by decide) ?_
  refine zU_iconst d_L_reset_10 ?_
  exact zU_ireturn d_L_reset_11 (Or.inl rfl) (by decide) (by decide) (⟨_, rfl, ⟨_, Or.inl ⟨rfl, N, K, M, p, b1, b2, rfl⟩, b3⟩, fun q hq => hq5 q (by omega)⟩)
