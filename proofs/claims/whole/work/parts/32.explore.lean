/-! exploring: after t questions (node t / 12, event t % 12) the graph is gAt nxt c0 t -/
def gStep (nxt : Nat → Nat → Option Nat) (g : gT) (k e : Nat) : gT := match g.1[k]? with
  | none => g
  | some c => match nxt c e with
    | none => g
    | some d => if d ∈ g.1 then (g.1, g.2.1 ++ [(12 * (k + 1) + e, g.1.idxOf d + 1)], g.2.2) else (g.1 ++ [d], g.2.1 ++ [(12 * (k + 1) + e, g.1.length + 1)], g.2.2 ++ [12 * (k + 1) + e])
def gAt (nxt : Nat → Nat → Option Nat) (c0 : Nat) : Nat → gT
  | 0 => ([c0], [], [0])
  | t + 1 => gStep nxt (gAt nxt c0 t) (t / 12) (t % 12)
theorem gStep_none {nxt : Nat → Nat → Option Nat} {g : gT} {k e c : Nat} (hk : g.1[k]? = some c) (hn : nxt c e = none) : gStep nxt g k e = g := by
  simp only [gStep, hk, hn]
theorem gStep_off {nxt : Nat → Nat → Option Nat} {g : gT} {k e : Nat} (hk : g.1[k]? = none) : gStep nxt g k e = g := by
  simp only [gStep, hk]
theorem idxOf_of {L : List Nat} {d j : Nat} (hj : L[j]? = some d) (hu : ∀ i, L[i]? = some d → i = j) : L.idxOf d = j := by
  have hm : d ∈ L := List.mem_of_getElem? hj
  have hl := List.idxOf_lt_length_of_mem hm
  have : L[L.idxOf d]? = some d := by
    rw [List.getElem?_eq_getElem hl, List.getElem_idxOf hl]
  exact hu _ this
theorem gStep_old {nxt : Nat → Nat → Option Nat} {L : List Nat} {ES : List (Nat × Nat)} {FB : List Nat} {k e c d j : Nat} (hk : L[k]? = some c) (hn : nxt c e = some d) (hj : L[j]? = some d) (hu : ∀ i, L[i]? = some d → i = j) :
    gStep nxt (L, ES, FB) k e = (L, ES ++ [(12 * (k + 1) + e, j + 1)], FB) := by
  have hm : d ∈ L := List.mem_of_getElem? hj
  simp only [gStep, hk, hn, if_pos hm, idxOf_of hj hu]
theorem gStep_new {nxt : Nat → Nat → Option Nat} {L : List Nat} {ES : List (Nat × Nat)} {FB : List Nat} {k e c d : Nat} (hk : L[k]? = some c) (hn : nxt c e = some d) (hd : d ∉ L) :
    gStep nxt (L, ES, FB) k e = (L ++ [d], ES ++ [(12 * (k + 1) + e, L.length + 1)], FB ++ [12 * (k + 1) + e]) := by
  simp only [gStep, hk, hn, if_neg hd]
theorem gStep_pre (nxt : Nat → Nat → Option Nat) (g : gT) (k e : Nat) : ∃ M, (gStep nxt g k e).1 = g.1 ++ M := by
  unfold gStep
  split
  · exact ⟨[], by simp⟩
  · split
    · exact ⟨[], by simp⟩
    · split
      · exact ⟨[], by simp⟩
      · exact ⟨_, rfl⟩
theorem gAt_pre (nxt : Nat → Nat → Option Nat) (c0 t : Nat) : ∀ s, ∃ M, (gAt nxt c0 (t + s)).1 = (gAt nxt c0 t).1 ++ M
  | 0 => ⟨[], by simp⟩
  | s + 1 => by
    obtain ⟨M, hM⟩ := gAt_pre nxt c0 t s
    obtain ⟨M2, hM2⟩ := gStep_pre nxt (gAt nxt c0 (t + s)) ((t + s) / 12) ((t + s) % 12)
    refine ⟨M ++ M2, ?_⟩
    show (gStep nxt (gAt nxt c0 (t + s)) ((t + s) / 12) ((t + s) % 12)).1 = _
    rw [hM2, hM, List.append_assoc]
theorem gAt_get {nxt : Nat → Nat → Option Nat} {c0 t s j c : Nat} (hts : t ≤ s) (h : (gAt nxt c0 t).1[j]? = some c) : (gAt nxt c0 s).1[j]? = some c := by
  obtain ⟨M, hM⟩ := gAt_pre nxt c0 t (s - t)
  rw [show t + (s - t) = s by omega] at hM
  rw [hM, List.getElem?_append_left (List.getElem?_eq_some_iff.mp h).1]
  exact h
theorem gAt_len {nxt : Nat → Nat → Option Nat} {c0 t s : Nat} (hts : t ≤ s) : (gAt nxt c0 t).1.length ≤ (gAt nxt c0 s).1.length := by
  obtain ⟨M, hM⟩ := gAt_pre nxt c0 t (s - t)
  rw [show t + (s - t) = s by omega] at hM
  rw [hM, List.length_append]
  omega
theorem gAt_keys (nxt : Nat → Nat → Option Nat) (c0 : Nat) : ∀ t, ∀ q ∈ (gAt nxt c0 t).2.1, q.1 < 12 + t
  | 0, q, hq => by simp [gAt] at hq
  | t + 1, q, hq => by
    have ih := gAt_keys nxt c0 t
    have key : ∀ x, q ∈ (gAt nxt c0 t).2.1 ++ [(12 * (t / 12 + 1) + t % 12, x)] → q.1 < 12 + (t + 1) := by
      intro x hx
      rcases List.mem_append.mp hx with h | h
      · have := ih q h
        omega
      · have : q = (12 * (t / 12 + 1) + t % 12, x) := by simpa using h
        subst this
        simp only
        omega
    simp only [gAt] at hq
    unfold gStep at hq
    split at hq
    · have := ih q hq; omega
    · split at hq
      · have := ih q hq; omega
      · split at hq
        · exact key _ hq
        · exact key _ hq
/-- the exploring has come to its end with N nodes -/
def gFin (nxt : Nat → Nat → Option Nat) (c0 N : Nat) : Prop := (gAt nxt c0 (12 * N)).1.length = N ∧ ∀ k, k < N → k < (gAt nxt c0 (12 * k)).1.length
theorem gFin_unique {nxt : Nat → Nat → Option Nat} {c0 N N' : Nat} (h : gFin nxt c0 N) (h' : gFin nxt c0 N') : N = N' := by
  rcases Nat.lt_trichotomy N N' with h1 | h1 | h1
  · have := h'.2 N h1
    rw [h.1] at this
    omega
  · exact h1
  · have := h.2 N' h1
    rw [h'.1] at this
    omega
theorem gFin_stable {nxt : Nat → Nat → Option Nat} {c0 N : Nat} (h : gFin nxt c0 N) : ∀ s, gAt nxt c0 (12 * N + s) = gAt nxt c0 (12 * N)
  | 0 => rfl
  | s + 1 => by
    have ih := gFin_stable h s
    show gStep nxt (gAt nxt c0 (12 * N + s)) ((12 * N + s) / 12) ((12 * N + s) % 12) = _
    rw [ih]
    exact gStep_off (List.getElem?_eq_none (by rw [h.1]; omega))
/-- more than 200 nodes come to light -/
def gMany (nxt : Nat → Nat → Option Nat) (c0 : Nat) : Prop := ∃ t, 200 < (gAt nxt c0 t).1.length
theorem gFin_notMany {nxt : Nat → Nat → Option Nat} {c0 N : Nat} (h : gFin nxt c0 N) (hN : N ≤ 200) : ¬ gMany nxt c0 := by
  rintro ⟨t, ht⟩
  have h1 : (gAt nxt c0 t).1.length ≤ (gAt nxt c0 (12 * N + t)).1.length := gAt_len (by omega)
  rw [gFin_stable h t, h.1] at h1
  omega
/-- what the automata do together -/
def nxtA (a : aT) (mem : Nat → Bool) (c e : Nat) : Option Nat := if (aMay a c e && aFree a mem c e) = true then some (cod (aStep a mem c e)) else none
theorem aVal_step {a : aT} {mem : Nat → Bool} {c e : Nat} (ha : aOk a) (hv : aVal a mem c) (he : e < 12) (hf : aFree a mem c e = true) : aVal a mem (cod (aStep a mem c e)) := by
  have h8 : ∀ j, j < 4 → aStep a mem c e j < 8 := fun j _ => aStep_lt ha mem hv he j
  refine ⟨cod_lt h8, fun i hi hm => ?_⟩
  have := ha.1
  rw [dig_cod h8 (by omega)]
  unfold aStep
  by_cases hh : aH a i e = true
  · rw [if_pos ⟨hi, hm, hh⟩]
    have h1 := all_iff.mp hf i hi
    simp only [hm, hh, Bool.not_true, Bool.false_or, decide_eq_true_eq] at h1
    have h2 := hv.2 i hi hm
    have h3 := (ha.2 i hi).1
    have h4 := ((ha.2 i hi).2.2 (dig c i) e (by omega) he).1
    omega
  · rw [if_neg (fun h => hh h.2.2)]
    exact hv.2 i hi hm
theorem aVal_first {a : aT} {mem : Nat → Bool} (ha : aOk a) (hI : ∀ i, i < aN a → mem i = true → 0 ≤ aI a i) : aVal a mem (cod (aFirst a mem)) := by
  refine ⟨cod_lt (fun j _ => aFirst_lt ha mem j), fun i hi hm => ?_⟩
  have := ha.1
  rw [dig_cod (fun j _ => aFirst_lt ha mem j) (by omega)]
  unfold aFirst
  rw [if_pos ⟨hi, hm⟩]
  have h1 := (ha.2 i hi).2.1
  have h2 := hI i hi hm
  omega
theorem gAt_val {a : aT} {mem : Nat → Bool} {c0 : Nat} (ha : aOk a) (h0 : aVal a mem c0) : ∀ t, ∀ c ∈ (gAt (nxtA a mem) c0 t).1, aVal a mem c
  | 0, c, hc => by
    have : c = c0 := by simpa [gAt] using hc
    rw [this]
    exact h0
  | t + 1, c, hc => by
    have ih := gAt_val ha h0 t
    simp only [gAt] at hc
    unfold gStep at hc
    split at hc
    · exact ih c hc
    · next c1 hc1 =>
      split at hc
      · exact ih c hc
      · next d hd =>
        split at hc
        · exact ih c hc
        · rcases List.mem_append.mp hc with h | h
          · exact ih c h
          · have hcd : c = d := by simpa using h
            subst hcd
            unfold nxtA at hd
            split at hd
            · next hfree =>
              cases hd
              simp only [Bool.and_eq_true] at hfree
              exact aVal_step ha (ih c1 (List.mem_of_getElem? hc1)) (Nat.mod_lt _ (by decide)) hfree.2
            · cases hd
theorem aVal_mono {a : aT} {mem mem' : Nat → Bool} {c : Nat} (h : aVal a mem c) (hm : ∀ i, i < aN a → mem' i = true → mem i = true) : aVal a mem' c := ⟨h.1, fun i hi hi' => h.2 i hi (hm i hi hi')⟩
/-- the first k nodes have been looked at -/
def gMk (a : aT) (mem : Nat → Bool) (L : List Nat) (k : Nat) (μ : zM) : Prop := ∀ (j c : Nat), j < k → L[j]? = some c → μ 18 (j + 1) = zB (aGoal a mem c) ∧ μ 19 (j + 1) = zB (!aBad a mem c) ∧ zmask 12 (μ 27 (j + 1)) (aMay a c)
theorem gMk_congr {a : aT} {mem : Nat → Bool} {L : List Nat} {k : Nat} {μ μ' : zM} (h : gMk a mem L k μ) (h18 : μ' 18 = μ 18) (h19 : μ' 19 = μ 19) (h27 : μ' 27 = μ 27) : gMk a mem L k μ' := by
  intro j c hj hc
  rw [h18, h19, h27]
  exact h j c hj hc
theorem gRep_congr {g : gT} {μ μ' : zM} (h : gRep g μ) (hq : ∀ q, q = 15 ∨ q = 16 ∨ q = 17 ∨ q = 21 ∨ q = 22 ∨ q = 23 ∨ q = 24 → μ' q = μ q) : gRep g μ' := by
  obtain ⟨⟨b1, b2, b3, b4⟩, ⟨e1, e2, e3⟩, f1, f2⟩ := h
  have m15 := hq 15 (by omega)
  have m16 := hq 16 (by omega)
  have m17 := hq 17 (by omega)
  have m21 := hq 21 (by omega)
  have m22 := hq 22 (by omega)
  have m23 := hq 23 (by omega)
  have m24 := hq 24 (by omega)
  refine ⟨⟨by rw [m15]; exact b1, b2, by rw [m16, m17]; exact b3, by rw [m16]; exact b4⟩, ⟨by rw [m22]; exact e1, by rw [m22]; exact e2, fun t h1 h2 => by rw [m23]; exact gCh_congr _ _ (fun y _ => by rw [m24]) (e3 t h1 h2)⟩, f1, by rw [m21]; exact f2⟩
