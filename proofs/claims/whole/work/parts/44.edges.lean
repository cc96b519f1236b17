/-! edges of an explored graph, as mathematics -/
theorem gTo_none {g : gT} {x : Nat} (h : ∀ q ∈ g.2.1, q.1 ≠ x) : gTo g x = 0 := by
  unfold gTo
  rw [List.find?_eq_none.mpr (fun q hq => by simp [h q hq])]
theorem gTo_app {L L' : List Nat} {ES : List (Nat × Nat)} {FB FB' : List Nat} {x j y : Nat} (h : ∀ q ∈ ES, q.1 ≠ x) : gTo (L', ES ++ [(x, j)], FB') y = if y = x then j else gTo (L, ES, FB) y := by
  unfold gTo
  simp only [List.find?_append]
  by_cases hy : y = x
  · subst hy
    rw [List.find?_eq_none.mpr (fun q hq => by simp [h q hq])]
    simp
  · rw [if_neg hy]
    have h1 : ([(x, j)] : List (Nat × Nat)).find? (fun q => decide (q.1 = y)) = none := by
      rw [List.find?_eq_none]
      intro q hq
      have : q = (x, j) := by simpa using hq
      subst this
      simp only [decide_eq_true_eq]
      exact fun h => hy h.symm
    rw [h1, Option.or_none]
theorem gTo_next (nxt : Nat → Nat → Option Nat) (c0 t x : Nat) (hx : x ≠ 12 + t) : gTo (gAt nxt c0 (t + 1)) x = gTo (gAt nxt c0 t) x := by
  have hk := gAt_keys nxt c0 t
  have e1 : 12 * (t / 12 + 1) + t % 12 = 12 + t := by omega
  simp only [gAt]
  unfold gStep
  split
  · rfl
  · split
    · rfl
    · split
      · rw [gTo_app (L := (gAt nxt c0 t).1) (FB := (gAt nxt c0 t).2.2) (fun q hq => by have := hk q hq; omega), if_neg (by omega)]
      · rw [gTo_app (L := (gAt nxt c0 t).1) (FB := (gAt nxt c0 t).2.2) (fun q hq => by have := hk q hq; omega), if_neg (by omega)]
theorem gTo_at {nxt : Nat → Nat → Option Nat} {c0 k e c : Nat} (he : e < 12) (hk : (gAt nxt c0 (12 * k)).1[k]? = some c) : ∀ s, (nxt c e = none → gTo (gAt nxt c0 (12 * k + e + 1 + s)) (12 * (k + 1) + e) = 0) ∧ ∀ d, nxt c e = some d → ∃ j, (gAt nxt c0 (12 * k + e + 1 + s)).1[j]? = some d ∧ gTo (gAt nxt c0 (12 * k + e + 1 + s)) (12 * (k + 1) + e) = j + 1
  | 0 => by
    have hk2 := gAt_get (show 12 * k ≤ 12 * k + e by omega) hk
    have hkeys := gAt_keys nxt c0 (12 * k + e)
    have hne : ∀ q ∈ (gAt nxt c0 (12 * k + e)).2.1, q.1 ≠ 12 * (k + 1) + e := fun q hq => by have := hkeys q hq; omega
    rw [Nat.add_zero, show 12 * k + e + 1 = 12 * k + (e + 1) from rfl, gAt_next nxt c0 he]
    refine ⟨fun h => ?_, fun d h => ?_⟩
    · rw [gStep_none hk2 h]
      exact gTo_none hne
    · by_cases hd : d ∈ (gAt nxt c0 (12 * k + e)).1
      · have hl := List.idxOf_lt_length_of_mem hd
        refine ⟨(gAt nxt c0 (12 * k + e)).1.idxOf d, ?_, ?_⟩
        · simp only [gStep, hk2, h, if_pos hd]
          rw [List.getElem?_eq_getElem hl, List.getElem_idxOf hl]
        · simp only [gStep, hk2, h, if_pos hd]
          rw [gTo_app (L := []) (FB := []) hne, if_pos rfl]
      · refine ⟨(gAt nxt c0 (12 * k + e)).1.length, ?_, ?_⟩
        · simp only [gStep, hk2, h, if_neg hd]
          simp
        · simp only [gStep, hk2, h, if_neg hd]
          rw [gTo_app (L := []) (FB := []) hne, if_pos rfl]
  | s + 1 => by
    have ih := gTo_at he hk s
    have e1 : 12 * k + e + 1 + (s + 1) = (12 * k + e + 1 + s) + 1 := by omega
    rw [e1, gTo_next nxt c0 _ _ (by omega)]
    refine ⟨ih.1, fun d h => ?_⟩
    obtain ⟨j, h1, h2⟩ := ih.2 d h
    exact ⟨j, gAt_get (by omega) h1, h2⟩
theorem gTo_fin {nxt : Nat → Nat → Option Nat} {c0 N k e : Nat} (hF : gFin nxt c0 N) (hk : k < N) (he : e < 12) : ∃ c, (gAt nxt c0 (12 * N)).1[k]? = some c ∧ (nxt c e = none → gTo (gAt nxt c0 (12 * N)) (12 * (k + 1) + e) = 0) ∧ ∀ d, nxt c e = some d → ∃ j, (gAt nxt c0 (12 * N)).1[j]? = some d ∧ gTo (gAt nxt c0 (12 * N)) (12 * (k + 1) + e) = j + 1 := by
  have hl := hF.2 k hk
  have hc : (gAt nxt c0 (12 * k)).1[k]? = some (gAt nxt c0 (12 * k)).1[k] := List.getElem?_eq_getElem hl
  refine ⟨_, gAt_get (show 12 * k ≤ 12 * N by omega) hc, ?_⟩
  have := gTo_at he hc (12 * N - (12 * k + e + 1))
  rw [show 12 * k + e + 1 + (12 * N - (12 * k + e + 1)) = 12 * N by omega] at this
  exact this
theorem gAt_nodup (nxt : Nat → Nat → Option Nat) (c0 : Nat) : ∀ t, (gAt nxt c0 t).1.Nodup
  | 0 => by simp [gAt]
  | t + 1 => by
    have ih := gAt_nodup nxt c0 t
    simp only [gAt]
    unfold gStep
    split
    · exact ih
    · split
      · exact ih
      · split
        · exact ih
        · next d hd hn =>
          rw [List.nodup_append]
          refine ⟨ih, by simp, fun x hx y hy => ?_⟩
          have : y = d := by simpa using hy
          subst this
          exact fun h => hn (h ▸ hx)
theorem nodup_get {L : List Nat} (h : L.Nodup) : ∀ {i j c : Nat}, L[i]? = some c → L[j]? = some c → i = j := by
  induction L with
  | nil => intro i j c hi; simp at hi
  | cons x l ih =>
    intro i j c hi hj
    have hn := List.nodup_cons.mp h
    cases i with
    | zero =>
      cases j with
      | zero => rfl
      | succ j =>
        simp only [List.getElem?_cons_zero, Option.some.injEq, List.getElem?_cons_succ] at hi hj
        subst hi
        exact absurd (List.mem_of_getElem? hj) hn.1
    | succ i =>
      cases j with
      | zero =>
        simp only [List.getElem?_cons_zero, Option.some.injEq, List.getElem?_cons_succ] at hi hj
        subst hj
        exact absurd (List.mem_of_getElem? hi) hn.1
      | succ j =>
        simp only [List.getElem?_cons_succ] at hi hj
        rw [ih hn.2 hi hj]
/-- from the node k the event e leads to the node j -/
theorem gTo_some {nxt : Nat → Nat → Option Nat} {c0 N k e j : Nat} (hF : gFin nxt c0 N) (hk : k < N) (he : e < 12) (h : gTo (gAt nxt c0 (12 * N)) (12 * (k + 1) + e) = j + 1) : ∃ c d, (gAt nxt c0 (12 * N)).1[k]? = some c ∧ nxt c e = some d ∧ (gAt nxt c0 (12 * N)).1[j]? = some d := by
  obtain ⟨c, h1, h2, h3⟩ := gTo_fin hF hk he
  cases hn : nxt c e with
  | none => rw [h2 hn] at h; omega
  | some d =>
    obtain ⟨j', h4, h5⟩ := h3 d hn
    have : j' = j := by omega
    subst this
    exact ⟨c, d, h1, hn, h4⟩
theorem oAt_nodup (tg : Nat → Nat → Nat) (K : Nat → Bool) (t : Nat) : (oAt tg K t).Nodup := by
  unfold oAt
  split
  · exact gAt_nodup _ _ _
  · simp
theorem oAt_kept (tg : Nat → Nat → Nat) (K : Nat → Bool) (t : Nat) : ∀ k ∈ oAt tg K t, K k = true := by
  unfold oAt
  split
  · next h0 =>
    induction t with
    | zero =>
      intro k hk
      have : k = 0 := by simpa [gAt] using hk
      rw [this]
      exact h0
    | succ t ih =>
      intro k hk
      simp only [gAt] at hk
      unfold gStep at hk
      split at hk
      · exact ih k hk
      · split at hk
        · exact ih k hk
        · next d hd =>
          split at hk
          · exact ih k hk
          · rcases List.mem_append.mp hk with h | h
            · exact ih k h
            · have hkd : k = d := by simpa using h
              subst hkd
              unfold nxK at hd
              split at hd
              · cases hd
              · next hne =>
                cases hd
                unfold ktg at hne ⊢
                split at hne
                · next hc =>
                  rw [if_pos hc]
                  exact hc.2
                · exact absurd rfl hne
  · intro k hk
    simp at hk
/-- digits of those that take no part -/
theorem gAt_zero {a : aT} {mem : Nat → Bool} (ha : aOk a) : ∀ t, ∀ c ∈ (gAt (nxtA a mem) (cod (aFirst a mem)) t).1, c < 4096 → ∀ i, i < 4 → ¬ (i < aN a ∧ mem i = true) → (∀ c ∈ (gAt (nxtA a mem) (cod (aFirst a mem)) t).1, aVal a mem c) → dig c i = 0
  | 0, c, hc, _, i, hi, hn, _ => by
    have : c = cod (aFirst a mem) := by simpa [gAt] using hc
    rw [this, dig_cod (fun j _ => aFirst_lt ha mem j) hi]
    unfold aFirst
    rw [if_neg hn]
  | t + 1, c, hc, hlt, i, hi, hn, hv => by
    have hsub : ∀ c ∈ (gAt (nxtA a mem) (cod (aFirst a mem)) t).1, aVal a mem c := by
      intro c hc
      obtain ⟨M, hM⟩ := gAt_pre (nxtA a mem) (cod (aFirst a mem)) t 1
      exact hv c (by rw [hM]; exact List.mem_append_left _ hc)
    have ih := fun c hc hlt => gAt_zero (mem := mem) ha t c hc hlt i hi hn hsub
    simp only [gAt] at hc
    unfold gStep at hc
    split at hc
    · exact ih c hc hlt
    · next c1 hc1 =>
      split at hc
      · exact ih c hc hlt
      · next d hd =>
        split at hc
        · exact ih c hc hlt
        · rcases List.mem_append.mp hc with h | h
          · exact ih c h hlt
          · have hcd : c = d := by simpa using h
            subst hcd
            have hv1 := hsub c1 (List.mem_of_getElem? hc1)
            unfold nxtA at hd
            split at hd
            · cases hd
              rw [dig_cod (fun j _ => aStep_lt ha mem hv1 (Nat.mod_lt _ (by decide)) j) hi]
              unfold aStep
              rw [if_neg (fun h => hn ⟨h.1, h.2.1⟩)]
              exact ih c1 (List.mem_of_getElem? hc1) hv1.1
            · cases hd
theorem sMath_zero {a : aT} {mem : Nat → Bool} {N : Nat} {K : Nat → Bool} {M c i : Nat} (ha : aOk a) (h : sMath a mem N K M) (hc : c ∈ (sg a mem N).1) (hi : i < 4) (hn : ¬ (i < aN a ∧ mem i = true)) : dig c i = 0 :=
  gAt_zero ha _ c hc (h.2.2.2.2.2.2.2 c hc).1 i hi hn h.2.2.2.2.2.2.2
theorem ktg_some {tg : Nat → Nat → Nat} {K : Nat → Bool} {k e : Nat} (h : ktg tg K k e ≠ 0) : tg k e = ktg tg K k e ∧ K (ktg tg K k e - 1) = true := by
  unfold ktg at h ⊢
  split at h
  · next hc =>
    rw [if_pos hc]
    exact ⟨rfl, hc.2⟩
  · exact absurd rfl h
theorem sMath_tg {a : aT} {mem : Nat → Bool} {N : Nat} {K : Nat → Bool} {M k e : Nat} (h : sMath a mem N K M) (hk : k < N) (he : e < 12) (h0 : ktg (gtg (sg a mem N)) K k e ≠ 0) : ∃ c d, (sg a mem N).1[k]? = some c ∧ nxtA a mem c e = some d ∧ (sg a mem N).1[ktg (gtg (sg a mem N)) K k e - 1]? = some d ∧ ktg (gtg (sg a mem N)) K k e ≤ N ∧ K (ktg (gtg (sg a mem N)) K k e - 1) = true := by
  obtain ⟨h1, h2⟩ := ktg_some h0
  obtain ⟨c, d, h3, h4, h5⟩ := gTo_some (j := ktg (gtg (sg a mem N)) K k e - 1) h.1 hk he (by rw [show gTo (gAt (nxtA a mem) (cod (aFirst a mem)) (12 * N)) (12 * (k + 1) + e) = gtg (sg a mem N) k e from rfl, h1]; omega)
  have hl := (List.getElem?_eq_some_iff.mp h5).1
  rw [h.1.1] at hl
  exact ⟨c, d, h3, h4, h5, by omega, h2⟩
