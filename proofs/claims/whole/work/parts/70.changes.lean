/-! what the changes do; both worlds under changes elsewhere -/
def aAuto (a : aT) (v : vT) (x y t r : Int) (a' : aT) (v' : vT) : Prop := (t = 0 ∧ ∃ (n : Nat) (p : Bool), x = n ∧ y = zB (!p) ∧ (1 ≤ n ∧ n ≤ 6) ∧ aN a < 4 ∧ r = aN a ∧ a' = aAdd a n p ∧ v' = none) ∨ (t = 1 ∧ ¬ (1 ≤ x ∧ x ≤ 6 ∧ 0 ≤ y ∧ y ≤ 1) ∧ a' = a ∧ v' = v) ∨ (t = 2 ∧ (1 ≤ x ∧ x ≤ 6 ∧ 0 ≤ y ∧ y ≤ 1) ∧ aN a = 4 ∧ a' = a ∧ v' = v)
def aEvt (a : aT) (v : vT) (x : Int) (on : Bool) (t r : Int) (a' : aT) (v' : vT) : Prop := (t = 0 ∧ ∃ e : Nat, x = e ∧ e < 12 ∧ ((aD a e = true ∧ aC a e = on ∧ r = 0 ∧ a' = a ∧ v' = v) ∨ (aD a e = false ∧ r = 1 ∧ a' = aDecl a e on ∧ v' = none))) ∨ (t = 1 ∧ ¬ (0 ≤ x ∧ x < 12) ∧ a' = a ∧ v' = v) ∨ (t = 2 ∧ ∃ e : Nat, x = e ∧ e < 12 ∧ aD a e = true ∧ ¬ aC a e = on ∧ a' = a ∧ v' = v)
def aEdg (a : aT) (v : vT) (x s e y t : Int) (a' : aT) (v' : vT) : Prop := (t = 0 ∧ ∃ i s' e' t' : Nat, x = i ∧ s = s' ∧ e = e' ∧ y = t' ∧ i < aN a ∧ s' < aS a i ∧ t' < aS a i ∧ e' < 12 ∧ aD a e' = true ∧ ¬ 0 ≤ aE a i s' e' ∧ a' = aEdge a i s' e' t' ∧ v' = none) ∨ (t = 1 ∧ ¬ ((0 ≤ x ∧ x < aN a ∧ 0 ≤ s ∧ s < aS a x.toNat) ∧ (0 ≤ x ∧ x < aN a ∧ 0 ≤ y ∧ y < aS a x.toNat) ∧ 0 ≤ e ∧ e < 12) ∧ a' = a ∧ v' = v) ∨ (t = 2 ∧ ((0 ≤ x ∧ x < aN a ∧ 0 ≤ s ∧ s < aS a x.toNat) ∧ (0 ≤ x ∧ x < aN a ∧ 0 ≤ y ∧ y < aS a x.toNat) ∧ 0 ≤ e ∧ e < 12) ∧ (aD a e.toNat = false ∨ 0 ≤ aE a x.toNat s.toNat e.toNat) ∧ a' = a ∧ v' = v)
def aTel (a : aT) (v : vT) (x s w : Int) (on : Bool) (t : Int) (a' : aT) (v' : vT) : Prop := (t = 0 ∧ ∃ i s' w' : Nat, x = i ∧ s = s' ∧ w = w' ∧ i < aN a ∧ s' < aS a i ∧ w' < 3 ∧ a' = aTell a i s' w' on ∧ v' = none) ∨ (t = 1 ∧ ¬ ((0 ≤ x ∧ x < aN a ∧ 0 ≤ s ∧ s < aS a x.toNat) ∧ 0 ≤ w ∧ w < 3) ∧ a' = a ∧ v' = v)
theorem zBn_inj {p q : Bool} (h : zB (!p) = zB (!q)) : p = q := by cases p <;> cases q <;> simp_all [zB]
theorem aAuto_un {a a1 a2 : aT} {v v1 v2 : vT} {x y t r t' r' : Int} (h : aAuto a v x y t r a1 v1) (h' : aAuto a v x y t' r' a2 v2) : t = t' ∧ (t = 0 → r = r') ∧ a1 = a2 ∧ v1 = v2 := by
  rcases h with ⟨h1, n, p, b1, b2, b3, b4, b5, b6, b7⟩ | ⟨h1, h2, h3, h4⟩ | ⟨h1, h2, h3, h4, h5⟩ <;> rcases h' with ⟨a1', n', p', c1, c2, c3, c4, c5, c6, c7⟩ | ⟨a1', a2', a3', a4'⟩ | ⟨a1', a2', a3', a4', a5'⟩
  · have : n = n' := by omega
    subst this
    rw [b2] at c2
    have := zBn_inj c2
    subst this
    exact ⟨by omega, fun _ => by rw [b5, c5], by rw [b6, c6], by rw [b7, c7]⟩
  · have := zB_r (!p); omega
  · omega
  · have := zB_r (!p'); omega
  · exact ⟨by omega, fun _ => by omega, by rw [h3, a3'], by rw [h4, a4']⟩
  · omega
  · omega
  · omega
  · exact ⟨by omega, fun _ => by omega, by rw [h4, a4'], by rw [h5, a5']⟩
theorem aEvt_un {a a1 a2 : aT} {v v1 v2 : vT} {x t r t' r' : Int} {on : Bool} (h : aEvt a v x on t r a1 v1) (h' : aEvt a v x on t' r' a2 v2) : t = t' ∧ (t = 0 → r = r') ∧ a1 = a2 ∧ v1 = v2 := by
  rcases h with ⟨h1, e, b1, b2, b3⟩ | ⟨h1, h2, h3, h4⟩ | ⟨h1, e, b1, b2, b3, b4, b5, b6⟩ <;> rcases h' with ⟨a1', e', c1, c2, c3⟩ | ⟨a1', a2', a3', a4'⟩ | ⟨a1', e', c1, c2, c3, c4, c5, c6⟩
  · have : e = e' := by omega
    subst this
    rcases b3 with ⟨d1, d2, d3, d4, d5⟩ | ⟨d1, d2, d3, d4⟩ <;> rcases c3 with ⟨f1, f2, f3, f4, f5⟩ | ⟨f1, f2, f3, f4⟩
    · exact ⟨by omega, fun _ => by omega, by rw [d4, f4], by rw [d5, f5]⟩
    · rw [d1] at f1; cases f1
    · rw [d1] at f1; cases f1
    · exact ⟨by omega, fun _ => by omega, by rw [d3, f3], by rw [d4, f4]⟩
  · clear b3; omega
  · have : e = e' := by clear b3; omega
    subst this
    rcases b3 with ⟨d1, d2, d3, d4, d5⟩ | ⟨d1, d2, d3, d4⟩
    · exact absurd d2 c4
    · rw [d1] at c3; cases c3
  · clear c3; omega
  · exact ⟨by omega, fun _ => by omega, by rw [h3, a3'], by rw [h4, a4']⟩
  · omega
  · have : e = e' := by clear c3; omega
    subst this
    rcases c3 with ⟨d1, d2, d3, d4, d5⟩ | ⟨d1, d2, d3, d4⟩
    · exact absurd d2 b4
    · rw [d1] at b3; cases b3
  · omega
  · exact ⟨by omega, fun _ => by omega, by rw [b5, c5], by rw [b6, c6]⟩
theorem aEdg_un {a a1 a2 : aT} {v v1 v2 : vT} {x s e y t t' : Int} (h : aEdg a v x s e y t a1 v1) (h' : aEdg a v x s e y t' a2 v2) : t = t' ∧ a1 = a2 ∧ v1 = v2 := by
  rcases h with ⟨h1, i, s', e', y', b1, b2, b3, b4, b5, b6, b7, b8, b9, b10, b11, b12⟩ | ⟨h1, h2, h3, h4⟩ | ⟨h1, h2, h3, h4, h5⟩ <;> rcases h' with ⟨a1', j, s2, e2, y2, c1, c2, c3, c4, c5, c6, c7, c8, c9, c10, c11, c12⟩ | ⟨a1', a2', a3', a4'⟩ | ⟨a1', a2', a3', a4', a5'⟩
  · have : i = j := by omega
    subst this
    have : s' = s2 := by omega
    subst this
    have : e' = e2 := by omega
    subst this
    have : y' = y2 := by omega
    subst this
    exact ⟨by omega, by rw [b11, c11], by rw [b12, c12]⟩
  · subst b1; subst b2; subst b3; subst b4
    exact absurd ⟨⟨by omega, by omega, by omega, by rw [Int.toNat_natCast]; omega⟩, ⟨by omega, by omega, by omega, by rw [Int.toNat_natCast]; omega⟩, by omega, by omega⟩ a2'
  · subst b1; subst b2; subst b3; subst b4
    rw [Int.toNat_natCast, Int.toNat_natCast, Int.toNat_natCast] at a3'
    rcases a3' with h | h
    · rw [b9] at h; cases h
    · exact absurd h b10
  · subst c1; subst c2; subst c3; subst c4
    exact absurd ⟨⟨by omega, by omega, by omega, by rw [Int.toNat_natCast]; omega⟩, ⟨by omega, by omega, by omega, by rw [Int.toNat_natCast]; omega⟩, by omega, by omega⟩ h2
  · exact ⟨by omega, by rw [h3, a3'], by rw [h4, a4']⟩
  · exact absurd a2' h2
  · subst c1; subst c2; subst c3; subst c4
    rw [Int.toNat_natCast, Int.toNat_natCast, Int.toNat_natCast] at h3
    rcases h3 with h | h
    · rw [c9] at h; cases h
    · exact absurd h c10
  · exact absurd h2 a2'
  · exact ⟨by omega, by rw [h4, a4'], by rw [h5, a5']⟩
theorem aTel_un {a a1 a2 : aT} {v v1 v2 : vT} {x s w t t' : Int} {on : Bool} (h : aTel a v x s w on t a1 v1) (h' : aTel a v x s w on t' a2 v2) : t = t' ∧ a1 = a2 ∧ v1 = v2 := by
  rcases h with ⟨h1, i, s', w', b1, b2, b3, b4, b5, b6, b7, b8⟩ | ⟨h1, h2, h3, h4⟩ <;> rcases h' with ⟨a1', j, s2, w2, c1, c2, c3, c4, c5, c6, c7, c8⟩ | ⟨a1', a2', a3', a4'⟩
  · have : i = j := by omega
    subst this
    have : s' = s2 := by omega
    subst this
    have : w' = w2 := by omega
    subst this
    exact ⟨by omega, by rw [b7, c7], by rw [b8, c8]⟩
  · subst b1; subst b2; subst b3
    exact absurd ⟨⟨by omega, by omega, by omega, by rw [Int.toNat_natCast]; omega⟩, by omega, by omega⟩ a2'
  · subst c1; subst c2; subst c3
    exact absurd ⟨⟨by omega, by omega, by omega, by rw [Int.toNat_natCast]; omega⟩, by omega, by omega⟩ h2
  · exact ⟨by omega, by rw [h3, a3'], by rw [h4, a4']⟩
theorem cWor_fr {a : aT} {v : vT} {μ μ' : zM} (h : cWor a v μ) (hq : ∀ q, q < 51 → μ' q = μ q) : cWor a v μ' := by
  obtain ⟨h1, h2, ⟨L, h3⟩, h4, h5⟩ := h
  refine ⟨h1, cRep_far h2 h1 (fun q _ hq2 => hq q (by omega)), ⟨L, gBase_congr h3 (hq 15 (by omega)) (hq 16 (by omega)) (hq 17 (by omega))⟩, by rw [hq 33 (by omega)]; exact h4, ?_⟩
  rcases h5 with ⟨g1, g2⟩ | ⟨N, K, M, x, g1, g2, g3, g4, g5⟩
  · exact Or.inl ⟨g1, by rw [hq 0 (by omega)]; exact g2⟩
  · exact Or.inr ⟨N, K, M, x, g1, by rw [hq 0 (by omega)]; exact g2, g3, sSup_congr g4 (fun q h1 h2 => hq q (by omega)), by rw [hq 0 (by omega)]; exact g5⟩
theorem cWor_new {a a' : aT} {v : vT} {μ μ' : zM} (h : cWor a v μ) (ha : aOk a') (hc : cRep a' μ') (h6 : μ' 0 6 = 0) (hq : ∀ q, 15 ≤ q → q ≤ 33 → μ' q = μ q) : cWor a' none μ' := by
  obtain ⟨h1, h2, ⟨L, h3⟩, h4, h5⟩ := h
  exact ⟨ha, hc, ⟨L, gBase_congr h3 (hq 15 (by omega) (by omega)) (hq 16 (by omega) (by omega)) (hq 17 (by omega) (by omega))⟩, by rw [hq 33 (by omega) (by omega)]; exact h4, Or.inl ⟨rfl, h6⟩⟩
theorem cWor_N {a : aT} {N : Nat} {K : Nat → Bool} {M p : Nat} {μ : zM} (h : cWor a (some (N, K, M, p)) μ) : sMath a (aMem a none) N K M ∧ N ≤ 200 ∧ M ≤ N := by
  rcases h.2.2.2.2 with ⟨g1, g2⟩ | ⟨N', K', M', x, g1, g2, g3, g4, g5⟩
  · cases g1
  · cases g1
    exact ⟨g3, g3.2.1.2, g3.2.2.2.2.2.1⟩
theorem rWor_fr2 {a : aT} {v : vT} {μ μ' : zM} (h : rWor a v μ) (hq : ∀ q, 51 ≤ q → q ≠ 76 → μ' q = μ q) : rWor a v μ' :=
  rWor_fr h (fun x _ => by rw [hq 51 (by omega) (by omega)]) (fun q h1 h2 => hq q (by omega) (by omega)) (fun q x h1 h2 _ => by rw [hq q (by omega) (by omega)]) (hq 67 (by omega) (by omega)) (hq 68 (by omega) (by omega)) (hq 73 (by omega) (by omega))
theorem aOk_clr (a : aT) : aOk (aClr a) := ⟨Nat.zero_le 4, fun i hi => absurd hi (Nat.not_lt_zero i)⟩
theorem rWor_new {a' : aT} {μ' : zM} (ha : aOk a') (hc : rRep a' μ') (hn : rNo μ') : rWor a' none μ' := ⟨ha, hc, Or.inl ⟨rfl, hn⟩⟩
theorem m_R_automatonW (l : Launch) (μ : zM) {a : aT} {v : vT} (hW : rWor a v μ) {x y : Int} (hx : -2147483648 ≤ x ∧ x ≤ 2147483647) (hy : -2147483648 ≤ y ∧ y ≤ 2147483647) :
    zC l y_R_automaton b_R_automaton 5 (some .int) [] 1 0 22 false [zp 51, zi x, zi y] μ (zRi (fun r μ' => (∃ a' v', aAuto a v x y (μ' 51 0) r a' v' ∧ rWor a' v' μ') ∧ ∀ q, (q < 51 ∨ q = 76) → μ' q = μ q)) := by
  refine (m_R_automaton l μ hW.1 hW.2.1 hx hy).mono (fun o μ' h => ?_)
  obtain ⟨r, h1, h2, h3⟩ := h
  refine ⟨r, h1, ?_, h3⟩
  rcases h2 with ⟨h0, n, p, b1, b2, b3, b4, b5, b6, b7⟩ | ⟨h2, h4⟩ | ⟨h2, h4, h5⟩
  · exact ⟨aAdd a n p, none, Or.inl ⟨h0, n, p, b1, b2, b3, b4, b5, rfl, rfl⟩, rWor_new (aOk_add hW.1 b4 b3) b6 b7⟩
  · exact ⟨a, v, Or.inr (Or.inl ⟨thr_0 h2, h4, rfl, rfl⟩), by rw [h2]; exact rWor_thr hW _⟩
  · exact ⟨a, v, Or.inr (Or.inr ⟨thr_0 h2, h4, h5, rfl, rfl⟩), by rw [h2]; exact rWor_thr hW _⟩
theorem m_R_eventW (l : Launch) (μ : zM) {a : aT} {v : vT} (hW : rWor a v μ) {x : Int} {on : Bool} (hx : -2147483648 ≤ x ∧ x ≤ 2147483647) :
    zC l y_R_event b_R_event 4 (some .boolean) [] 1 0 22 false [zp 51, zi x, zi (zB on)] μ (zRi (fun r μ' => (∃ a' v', aEvt a v x on (μ' 51 0) r a' v' ∧ rWor a' v' μ' ∧ (r = 0 ∨ r = 1 ∨ ¬ μ' 51 0 = 0)) ∧ ∀ q, (q < 51 ∨ q = 76) → μ' q = μ q)) := by
  refine (m_R_event l μ hW.1 hW.2.1 hx).mono (fun o μ' h => ?_)
  obtain ⟨r, h1, h2, h3⟩ := h
  refine ⟨r, h1, ?_, h3⟩
  rcases h2 with ⟨e, b1, b2, ⟨b3, b4, b5, b6⟩ | ⟨b3, b4, b5, b6, b7⟩⟩ | ⟨h2, h4⟩ | ⟨h2, e, b1, b2, b3, b4⟩
  · exact ⟨a, v, Or.inl ⟨thr_0 b6, e, b1, b2, Or.inl ⟨b3, b4, b5, rfl, rfl⟩⟩, by rw [b6]; exact rWor_thr hW _, Or.inl b5⟩
  · exact ⟨aDecl a e on, none, Or.inl ⟨b5, e, b1, b2, Or.inr ⟨b3, b4, rfl, rfl⟩⟩, rWor_new (aOk_decl hW.1) b6 b7, Or.inr (Or.inl b4)⟩
  · exact ⟨a, v, Or.inr (Or.inl ⟨thr_0 h2, h4, rfl, rfl⟩), by rw [h2]; exact rWor_thr hW _, Or.inr (Or.inr (by rw [thr_0 h2]; decide))⟩
  · exact ⟨a, v, Or.inr (Or.inr ⟨thr_0 h2, e, b1, b2, b3, b4, rfl, rfl⟩), by rw [h2]; exact rWor_thr hW _, Or.inr (Or.inr (by rw [thr_0 h2]; decide))⟩
theorem m_R_edgeW (l : Launch) (μ : zM) {a : aT} {v : vT} (hW : rWor a v μ) {x s e y : Int} (hx : -2147483648 ≤ x ∧ x ≤ 2147483647) (hs : -2147483648 ≤ s ∧ s ≤ 2147483647) (he : -2147483648 ≤ e ∧ e ≤ 2147483647) (hy : -2147483648 ≤ y ∧ y ≤ 2147483647) :
    zC l y_R_edge b_R_edge 6 none [] 2 0 43 false [zp 51, zi x, zi s, zi e, zi y] μ (zRv (fun μ' => (∃ a' v', aEdg a v x s e y (μ' 51 0) a' v' ∧ rWor a' v' μ') ∧ ∀ q, (q < 51 ∨ q = 76) → μ' q = μ q)) := by
  refine (m_R_edge l μ hW.1 hW.2.1 hx hs he hy).mono (fun o μ' h => ?_)
  obtain ⟨h1, h2, h3⟩ := h
  refine ⟨h1, ?_, h3⟩
  rcases h2 with ⟨i, s', e', t', b1, b2, b3, b4, b5, b6, b7, b8, b9, b10, b11, b12, b13⟩ | ⟨h2, h4⟩ | ⟨h2, h4, h5⟩
  · exact ⟨_, none, Or.inl ⟨b11, i, s', e', t', b1, b2, b3, b4, b5, b6, b7, b8, b9, b10, rfl, rfl⟩, rWor_new (aOk_edge hW.1 b5 b6 ⟨by omega, by omega⟩ b9) b12 b13⟩
  · exact ⟨a, v, Or.inr (Or.inl ⟨thr_0 h2, h4, rfl, rfl⟩), by rw [h2]; exact rWor_thr hW _⟩
  · exact ⟨a, v, Or.inr (Or.inr ⟨thr_0 h2, h4, h5, rfl, rfl⟩), by rw [h2]; exact rWor_thr hW _⟩
theorem m_R_tellW (l : Launch) (μ : zM) {a : aT} {v : vT} (hW : rWor a v μ) {x s w : Int} {on : Bool} (hx : -2147483648 ≤ x ∧ x ≤ 2147483647) (hs : -2147483648 ≤ s ∧ s ≤ 2147483647) (hw : -2147483648 ≤ w ∧ w ≤ 2147483647) :
    zC l y_R_tell b_R_tell 5 none [] 2 0 43 false [zp 51, zi x, zi s, zi w, zi (zB on)] μ (zRv (fun μ' => (∃ a' v', aTel a v x s w on (μ' 51 0) a' v' ∧ rWor a' v' μ') ∧ ∀ q, (q < 51 ∨ q = 76) → μ' q = μ q)) := by
  refine (m_R_tell l μ hW.1 hW.2.1 hx hs hw).mono (fun o μ' h => ?_)
  obtain ⟨h1, h2, h3⟩ := h
  refine ⟨h1, ?_, h3⟩
  rcases h2 with ⟨i, s', w', b1, b2, b3, b4, b5, b6, b7, b8, b9⟩ | ⟨h2, h4⟩
  · exact ⟨_, none, Or.inl ⟨b7, i, s', w', b1, b2, b3, b4, b5, b6, rfl, rfl⟩, rWor_new (aOk_tell hW.1 b4 b5) b8 b9⟩
  · exact ⟨a, v, Or.inr ⟨thr_0 h2, h4, rfl, rfl⟩, by rw [h2]; exact rWor_thr hW _⟩
def zcr (own : String) (pc : Nat) (q : Nat × Nat × Nat × Nat) (j : Nat) : Prop := (q.1 ≤ pc ∧ pc < q.2.1) ∧ q.2.2.2 ≠ 0 ∧ j < 3 ∧ Cond.classLink own q.2.2.2 (zEx j) ∈ zWS
theorem zall1 {own : String} {pc : Nat} {q0 : Nat × Nat × Nat × Nat} {j0 : Nat} (h : zcr own pc q0 j0) : ∀ (i : Nat) (q : Nat × Nat × Nat × Nat) (j : Nat), [q0][i]? = some q → [j0][i]? = some j → zcr own pc q j := by
  intro i q j h1 h2
  match i with
  | 0 =>
    cases h1; cases h2; exact h
  | i + 1 => simp at h1
theorem zall2 {own : String} {pc : Nat} {q0 q1 : Nat × Nat × Nat × Nat} {j0 j1 : Nat} (h : zcr own pc q0 j0) (h' : zcr own pc q1 j1) : ∀ (i : Nat) (q : Nat × Nat × Nat × Nat) (j : Nat), [q0, q1][i]? = some q → [j0, j1][i]? = some j → zcr own pc q j := by
  intro i q j h1 h2
  match i with
  | 0 => cases h1; cases h2; exact h
  | 1 => cases h1; cases h2; exact h'
  | i + 2 => simp at h1
theorem cl_L_13 : Cond.classLink n_L 13 (zEx 0) ∈ zWS := zmem 389 (by decide +kernel) rfl
theorem cl_L_15 : Cond.classLink n_L 15 (zEx 1) ∈ zWS := zmem 390 (by decide +kernel) rfl
theorem cl_L_49 : Cond.classLink n_L 49 (zEx 2) ∈ zWS := zmem 611 (by decide +kernel) rfl
theorem cs_0 : Cond.castable (zEx 0) (zEx 0) ∈ zWS := zmem 397 (by decide +kernel) rfl
theorem cs_1 : Cond.castable (zEx 1) (zEx 1) ∈ zWS := zmem 460 (by decide +kernel) rfl
theorem cs_2 : Cond.castable (zEx 2) (zEx 2) ∈ zWS := zmem 618 (by decide +kernel) rfl
