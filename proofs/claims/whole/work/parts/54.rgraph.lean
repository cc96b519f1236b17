/-! the reference's graph: rows of 200 nodes; codes to the base 6 -/
def rIn (w q x : Nat) : Prop := (q = 60 ∧ x = w) ∨ ((q = 61 ∨ q = 64 ∨ q = 65 ∨ q = 66) ∧ 200 * w ≤ x ∧ x < 200 * w + 200) ∨ ((q = 62 ∨ q = 63) ∧ 2400 * w ≤ x ∧ x < 2400 * w + 2400)
def rFr (w : Nat) (μ μ' : zM) : Prop := ∀ q x, ¬ rIn w q x → μ' q x = μ q x
theorem rFr_rf (w : Nat) (μ : zM) : rFr w μ μ := fun _ _ _ => rfl
theorem rFr_tr {w : Nat} {μ μ1 μ2 : zM} (h : rFr w μ μ1) (h' : rFr w μ1 μ2) : rFr w μ μ2 := fun q x hi => (h' q x hi).trans (h q x hi)
theorem rFr_up {w : Nat} {μ μ1 : zM} {p i : Nat} {v : Int} (h : rFr w μ μ1) (hi : rIn w p i) : rFr w μ (zup μ1 p i v) := by
  intro q x hq
  rw [zup_at, if_neg (fun hh => hq (by rw [hh.1, hh.2]; exact hi))]
  exact h q x hq
theorem rFr_q {w : Nat} {μ μ' : zM} (h : rFr w μ μ') {q : Nat} (hq : q < 60 ∨ 66 < q) : μ' q = μ q := by
  funext x
  exact h q x (by unfold rIn; omega)
theorem rRep_fr {a : aT} {w : Nat} {μ μ' : zM} (h : rRep a μ) (hf : rFr w μ μ') : rRep a μ' := rRep_congr h (by rw [rFr_q hf (by omega)]) (fun q h1 h2 => rFr_q hf (by omega))
abbrev gA (a : aT) (mem : Nat → Bool) (t : Nat) : gT := gAt (nxtA a mem) (cod (aFirst a mem)) t
def rNd (g : gT) (w : Nat) (μ : zM) : Prop := g.1.length ≤ 200 ∧ μ 60 w = (g.1.length : Int) ∧ ∀ j c : Nat, g.1[j]? = some c → μ 61 (200 * w + j) = (c6 c : Int)
def rEd (a : aT) (g : gT) (w t : Nat) (μ : zM) : Prop := ∀ j x c : Nat, x < 12 → 12 * j + x < t → g.1[j]? = some c → μ 62 (12 * (200 * w + j) + x) = (gtg g j x : Int) - 1 ∧ μ 63 (12 * (200 * w + j) + x) = zB (aMay a c x)
def rMk (a : aT) (mem : Nat → Bool) (g : gT) (w m : Nat) (μ : zM) : Prop := ∀ j c : Nat, j < m → g.1[j]? = some c → μ 64 (200 * w + j) = zB (aGoal a mem c) ∧ μ 65 (200 * w + j) = zB (aBad a mem c)
def rEx (a : aT) (mem : Nat → Bool) (w t m : Nat) (μ0 μ : zM) : Prop := rNd (gA a mem t) w μ ∧ rEd a (gA a mem t) w t μ ∧ rMk a mem (gA a mem t) w m μ ∧ rFr w μ0 μ
def rGr (a : aT) (mem : Nat → Bool) (w N : Nat) (μ : zM) : Prop := μ 60 w = (N : Int) ∧ ∀ k, k < N → μ 61 (200 * w + k) = (c6 ((sg a mem N).1.getD k 0) : Int) ∧ μ 64 (200 * w + k) = zB (sG a mem (sg a mem N) k) ∧ ∀ e, e < 12 → μ 62 (12 * (200 * w + k) + e) = (gtg (sg a mem N) k e : Int) - 1 ∧ μ 63 (12 * (200 * w + k) + e) = zB (sU a (sg a mem N) k e)
def rBd (w N : Nat) (K : Nat → Bool) (μ : zM) : Prop := ∀ k, k < N → μ 65 (200 * w + k) = zB (!K k)
theorem rSt {nxt : Nat → Nat → Option Nat} {c0 k e c : Nat} {v : Int} {L' : List Nat} (he : e < 12) (hk0 : (gAt nxt c0 (12 * k)).1[k]? = some c)
    (h : (nxt c e = none ∧ v = -1 ∧ L' = (gAt nxt c0 (12 * k + e)).1) ∨ ∃ d, nxt c e = some d ∧ ((∃ j : Nat, (gAt nxt c0 (12 * k + e)).1[j]? = some d ∧ v = (j : Int) ∧ L' = (gAt nxt c0 (12 * k + e)).1) ∨ (d ∉ (gAt nxt c0 (12 * k + e)).1 ∧ v = ((gAt nxt c0 (12 * k + e)).1.length : Int) ∧ L' = (gAt nxt c0 (12 * k + e)).1 ++ [d]))) :
    (gAt nxt c0 (12 * k + (e + 1))).1 = L' ∧ (gtg (gAt nxt c0 (12 * k + (e + 1))) k e : Int) - 1 = v := by
  have hk := gAt_get (show 12 * k ≤ 12 * k + e by omega) hk0
  have ht := gTo_at he hk0 0
  have hnd := gAt_nodup nxt c0 (12 * k + (e + 1))
  have e1 : 12 * k + e + 1 + 0 = 12 * k + (e + 1) := by omega
  rw [e1] at ht
  have e2 : gtg (gAt nxt c0 (12 * k + (e + 1))) k e = gTo (gAt nxt c0 (12 * k + (e + 1))) (12 * (k + 1) + e) := rfl
  rw [e2]
  have hnx := gAt_next nxt c0 (k := k) he
  rcases h with ⟨h1, h2, h3⟩ | ⟨d, h1, h2⟩
  · rw [ht.1 h1, h2, h3, hnx, gStep_none hk h1]
    exact ⟨rfl, by omega⟩
  · obtain ⟨j', hj', hg'⟩ := ht.2 d h1
    rcases h2 with ⟨j, hj, hv, hL⟩ | ⟨hm, hv, hL⟩
    · have hj2 := gAt_get (show 12 * k + e ≤ 12 * k + (e + 1) by omega) hj
      have := nodup_get hnd hj' hj2
      subst this
      refine ⟨?_, by rw [hg']; omega⟩
      rw [hnx, hL]
      have hm : d ∈ (gAt nxt c0 (12 * k + e)).1 := List.mem_of_getElem? hj
      simp only [gStep, hk, h1, if_pos hm]
    · have hLL : (gAt nxt c0 (12 * k + (e + 1))).1 = (gAt nxt c0 (12 * k + e)).1 ++ [d] := by
        rw [hnx]
        simp only [gStep, hk, h1, if_neg hm]
      have hj2 : (gAt nxt c0 (12 * k + (e + 1))).1[(gAt nxt c0 (12 * k + e)).1.length]? = some d := by
        rw [hLL]
        simp
      have := nodup_get hnd hj' hj2
      subst this
      exact ⟨by rw [hLL, hL], by rw [hg']; omega⟩
theorem rEx_step {a : aT} {mem : Nat → Bool} {w k e c : Nat} {μ0 μ μ2 : zM} {v : Int} (he : e < 12) (h : rEx a mem w (12 * k + e) (k + 1) μ0 μ) (hk0 : (gA a mem (12 * k)).1[k]? = some c)
    (hs : (nxtA a mem c e = none ∧ v = -1 ∧ μ2 = zup μ 63 (12 * (200 * w + k) + e) (zB (aMay a c e))) ∨ ∃ d, nxtA a mem c e = some d ∧ ((∃ j : Nat, (gA a mem (12 * k + e)).1[j]? = some d ∧ v = (j : Int) ∧ μ2 = zup μ 63 (12 * (200 * w + k) + e) (zB (aMay a c e))) ∨
      (d ∉ (gA a mem (12 * k + e)).1 ∧ (gA a mem (12 * k + e)).1.length < 200 ∧ v = ((gA a mem (12 * k + e)).1.length : Int) ∧ μ2 = zup (zup (zup μ 63 (12 * (200 * w + k) + e) (zB (aMay a c e))) 61 (200 * w + (gA a mem (12 * k + e)).1.length) (c6 d : Int)) 60 w (((gA a mem (12 * k + e)).1.length + 1 : Nat) : Int)))) :
    rEx a mem w (12 * k + (e + 1)) (k + 1) μ0 (zup μ2 62 (12 * (200 * w + k) + e) v) := by
  obtain ⟨⟨n1, n2, n3⟩, hE, hM, hF⟩ := h
  have hk := gAt_get (show 12 * k ≤ 12 * k + e by omega) hk0
  have hkl := (List.getElem?_eq_some_iff.mp hk).1
  have hkl' : k < (gA a mem (12 * k + e)).1.length := hkl
  -- the facts of μ2
  have hm63 : μ2 63 = zup μ 63 (12 * (200 * w + k) + e) (zB (aMay a c e)) 63 := by
    rcases hs with ⟨_, _, h⟩ | ⟨d, _, ⟨j, _, _, h⟩ | ⟨_, _, _, h⟩⟩
    · rw [h]
    · rw [h]
    · rw [h, zup_ne _ _ _ (by decide), zup_ne _ _ _ (by decide)]
  have hm64 : ∀ q, q ≠ 60 → q ≠ 61 → q ≠ 63 → μ2 q = μ q := by
    intro q q1 q2 q3
    rcases hs with ⟨_, _, h⟩ | ⟨d, _, ⟨j, _, _, h⟩ | ⟨_, _, _, h⟩⟩
    · rw [h, zup_ne _ _ _ q3]
    · rw [h, zup_ne _ _ _ q3]
    · rw [h, zup_ne _ _ _ q1, zup_ne _ _ _ q2, zup_ne _ _ _ q3]
  have hF1 : rFr w μ0 (zup μ 63 (12 * (200 * w + k) + e) (zB (aMay a c e))) := rFr_up hF (by unfold rIn; omega)
  have hF2 : rFr w μ0 μ2 := by
    rcases hs with ⟨_, _, h⟩ | ⟨d, _, ⟨j, _, _, h⟩ | ⟨_, h9, _, h⟩⟩
    · rw [h]; exact hF1
    · rw [h]; exact hF1
    · rw [h]; exact rFr_up (rFr_up hF1 (by unfold rIn; omega)) (by unfold rIn; omega)
  have hmem : ∃ L', ((nxtA a mem c e = none ∧ v = -1 ∧ L' = (gA a mem (12 * k + e)).1) ∨ ∃ d, nxtA a mem c e = some d ∧ ((∃ j : Nat, (gA a mem (12 * k + e)).1[j]? = some d ∧ v = (j : Int) ∧ L' = (gA a mem (12 * k + e)).1) ∨ (d ∉ (gA a mem (12 * k + e)).1 ∧ v = ((gA a mem (12 * k + e)).1.length : Int) ∧ L' = (gA a mem (12 * k + e)).1 ++ [d]))) ∧ L'.length ≤ 200 ∧ μ2 60 w = (L'.length : Int) ∧ (∀ j c : Nat, L'[j]? = some c → μ2 61 (200 * w + j) = (c6 c : Int)) ∧ ∀ j c : Nat, j < (gA a mem (12 * k + e)).1.length → L'[j]? = some c → (gA a mem (12 * k + e)).1[j]? = some c := by
    rcases hs with ⟨h1, h2, h3⟩ | ⟨d, h1, ⟨j, h2, h3, h4⟩ | ⟨h2, h3, h4, h5⟩⟩
    · refine ⟨_, Or.inl ⟨h1, h2, rfl⟩, n1, ?_, fun j c hj => ?_, fun j c _ hj => hj⟩
      · rw [h3, zup_ne _ _ _ (by decide)]; exact n2
      · rw [h3, zup_ne _ _ _ (by decide)]; exact n3 j c hj
    · refine ⟨_, Or.inr ⟨d, h1, Or.inl ⟨j, h2, h3, rfl⟩⟩, n1, ?_, fun j c hj => ?_, fun j c _ hj => hj⟩
      · rw [h4, zup_ne _ _ _ (by decide)]; exact n2
      · rw [h4, zup_ne _ _ _ (by decide)]; exact n3 j c hj
    · refine ⟨_, Or.inr ⟨d, h1, Or.inr ⟨h2, h4, rfl⟩⟩, by simp only [List.length_append, List.length_cons, List.length_nil]; omega, ?_, fun j c hj => ?_, fun j c hl hj => ?_⟩
      · rw [h5, zup_at]
        simp
      · rw [h5, zup_ne _ _ _ (by decide), zup_at]
        by_cases hjl : j < (gA a mem (12 * k + e)).1.length
        · rw [List.getElem?_append_left hjl] at hj
          rw [if_neg (by omega), zup_ne _ _ _ (by decide)]
          exact n3 j c hj
        · rw [List.getElem?_append_right (by omega)] at hj
          have h0 : j - (gA a mem (12 * k + e)).1.length < 1 := (List.getElem?_eq_some_iff.mp hj).1
          have hj0 : j = (gA a mem (12 * k + e)).1.length := by omega
          subst hj0
          simp at hj
          rw [if_pos ⟨rfl, rfl⟩, hj]
      · rw [List.getElem?_append_left hl] at hj
        exact hj
  obtain ⟨L', hL, hl1, hl2, hl3, hl4⟩ := hmem
  obtain ⟨s1, s2⟩ := rSt he hk0 hL
  have s1' : (gA a mem (12 * k + (e + 1))).1 = L' := s1
  refine ⟨⟨by rw [s1']; exact hl1, ?_, fun j c hj => ?_⟩, fun j x c' hx hjx hj => ?_, fun j c' hj1 hj => ?_, rFr_up hF2 (by unfold rIn; omega)⟩
  · rw [s1', zup_ne _ _ _ (by decide)]; exact hl2
  · rw [s1'] at hj
    rw [zup_ne _ _ _ (by decide)]
    exact hl3 j c hj
  · rw [s1'] at hj
    by_cases hje : j = k ∧ x = e
    · obtain ⟨rfl, rfl⟩ := hje
      have hj9 := hl4 j c' hkl' hj
      have : c' = c := by
        have h9 : (gA a mem (12 * j + x)).1[j]? = some c := hk
        rw [h9] at hj9
        exact (Option.some.inj hj9).symm
      subst this
      refine ⟨?_, ?_⟩
      · rw [zup_at, if_pos ⟨rfl, rfl⟩]
        exact s2.symm
      · rw [zup_ne _ _ _ (by decide), hm63, zup_at, if_pos ⟨rfl, rfl⟩]
    · have hlt : 12 * j + x < 12 * k + e := by omega
      have h9 := hE j x c' hx hlt (hl4 j c' (by omega) hj)
      refine ⟨?_, ?_⟩
      · rw [zup_at, if_neg (by omega), hm64 62 (by decide) (by decide) (by decide), h9.1]
        have := gTo_next (nxtA a mem) (cod (aFirst a mem)) (12 * k + e) (12 * (j + 1) + x) (by omega)
        rw [show gtg (gA a mem (12 * k + (e + 1))) j x = gTo (gAt (nxtA a mem) (cod (aFirst a mem)) (12 * k + e + 1)) (12 * (j + 1) + x) from rfl, this]
      · rw [zup_ne _ _ _ (by decide), hm63, zup_at, if_neg (by omega)]
        exact h9.2
  · rw [s1'] at hj
    have h9 := hM j c' hj1 (hl4 j c' (by omega) hj)
    rw [zup_ne _ _ _ (by decide), zup_ne _ _ _ (by decide), hm64 64 (by decide) (by decide) (by decide), hm64 65 (by decide) (by decide) (by decide)]
    exact h9
def fG (a : aT) (mem : Nat → Bool) (c i : Nat) : Bool := !mem i || aM a i (dig c i)
def fB (a : aT) (mem : Nat → Bool) (c i : Nat) : Bool := mem i && aF a i (dig c i)
def rAu (a : aT) (mem : Nat → Bool) (c n at' : Nat) (μ1 μ2 : zM) : Prop := (∀ q x, ¬ ((q = 64 ∨ q = 65) ∧ x = at') → μ2 q x = μ1 q x) ∧ μ2 64 at' = zB ((List.range n).all (fG a mem c)) ∧ μ2 65 at' = zB ((List.range n).any (fB a mem c))
theorem rAu_0 (a : aT) (mem : Nat → Bool) (c at' : Nat) (μ1 : zM) : rAu a mem c 0 at' μ1 (zup (zup μ1 64 at' 1) 65 at' 0) := by
  refine ⟨fun q x h => ?_, ?_, ?_⟩
  · rw [zup_at, if_neg (by omega), zup_at, if_neg (by omega)]
  · rw [zup_ne _ _ _ (by decide), zup_at, if_pos ⟨rfl, rfl⟩]; rfl
  · rw [zup_at, if_pos ⟨rfl, rfl⟩]; rfl
theorem rAu_skip {a : aT} {mem : Nat → Bool} {c n at' : Nat} {μ1 μ2 : zM} (h : rAu a mem c n at' μ1 μ2) (hm : mem n = false) : rAu a mem c (n + 1) at' μ1 μ2 := by
  obtain ⟨h1, h2, h3⟩ := h
  refine ⟨h1, ?_, ?_⟩
  · rw [h2, rng_all]; simp [fG, hm]
  · rw [h3, rng_any]; simp [fB, hm]
theorem rAu_step {a : aT} {mem : Nat → Bool} {c n at' : Nat} {μ1 μ2 : zM} (h : rAu a mem c n at' μ1 μ2) : rAu a mem c (n + 1) at' μ1 (zup (zup μ2 64 at' (zB ((List.range (n + 1)).all (fG a mem c)))) 65 at' (zB ((List.range (n + 1)).any (fB a mem c)))) := by
  obtain ⟨h1, h2, h3⟩ := h
  refine ⟨fun q x h => ?_, ?_, ?_⟩
  · rw [zup_at, if_neg (by omega), zup_at, if_neg (by omega)]
    exact h1 q x h
  · rw [zup_ne _ _ _ (by decide), zup_at, if_pos ⟨rfl, rfl⟩]
  · rw [zup_at, if_pos ⟨rfl, rfl⟩]
theorem rAu_fr {a : aT} {mem : Nat → Bool} {c n w k : Nat} {μ0 μ1 μ2 : zM} (hF : rFr w μ0 μ1) (hk : k < 200) (h : rAu a mem c n (200 * w + k) μ1 μ2) : rFr w μ0 μ2 := by
  intro q x hq
  rw [h.1 q x (fun h9 => hq (by unfold rIn; omega))]
  exact hF q x hq
theorem rAu_end {a : aT} {mem : Nat → Bool} {w k c : Nat} {μ0 μ1 μ2 : zM} (h : rEx a mem w (12 * k) k μ0 μ1) (hk : k < 200) (hk0 : (gA a mem (12 * k)).1[k]? = some c) (hA : rAu a mem c (aN a) (200 * w + k) μ1 μ2) : rEx a mem w (12 * k) (k + 1) μ0 μ2 := by
  obtain ⟨⟨n1, n2, n3⟩, hE, hM, hF⟩ := h
  refine ⟨⟨n1, ?_, fun j c hj => ?_⟩, fun j x c' hx hjx hj => ?_, fun j c' hj1 hj => ?_, rAu_fr hF hk hA⟩
  · rw [hA.1 _ _ (by omega)]; exact n2
  · rw [hA.1 _ _ (by omega)]; exact n3 j c hj
  · rw [hA.1 _ _ (by omega), hA.1 _ _ (by omega)]; exact hE j x c' hx hjx hj
  · by_cases hjk : j = k
    · subst hjk
      rw [hk0] at hj
      cases hj
      exact ⟨hA.2.1, hA.2.2⟩
    · rw [hA.1 _ _ (by omega), hA.1 _ _ (by omega)]
      exact hM j c' (by omega) hj
theorem rEx_0 {a : aT} {mem : Nat → Bool} {w : Nat} {μ : zM} : rEx a mem w (12 * 0) 0 μ (zup (zup (zup μ 60 w 0) 61 (200 * w + 0) (c6 (cod (aFirst a mem)) : Int)) 60 w ((0 + 1 : Nat) : Int)) := by
  have e0 : gA a mem (12 * 0) = ([cod (aFirst a mem)], [], [0]) := rfl
  rw [rEx, e0]
  refine ⟨⟨by simp, ?_, fun j c hj => ?_⟩, fun j x c hx hj => absurd hj (by omega), fun j c hj => absurd hj (by omega), rFr_up (rFr_up (rFr_up (rFr_rf _ _) (by unfold rIn; omega)) (by unfold rIn; omega)) (by unfold rIn; omega)⟩
  · rw [zup_at, if_pos ⟨rfl, rfl⟩]; rfl
  · have hj0 : j = 0 := by
      have : j < 1 := (List.getElem?_eq_some_iff.mp hj).1
      omega
    subst hj0
    simp at hj
    subst hj
    rw [zup_ne _ _ _ (by decide), zup_at, if_pos ⟨rfl, rfl⟩]
theorem rEx_fin {a : aT} {mem : Nat → Bool} {w N : Nat} {μ0 μ : zM} (h : rEx a mem w (12 * N) N μ0 μ) (hl : (gA a mem (12 * N)).1.length = N) : rGr a mem w N μ ∧ rBd w N (sB a mem (sg a mem N)) μ := by
  obtain ⟨⟨n1, n2, n3⟩, hE, hM, hF⟩ := h
  rw [hl] at n2
  have hg : ∀ k, k < N → (gA a mem (12 * N)).1[k]? = some ((gA a mem (12 * N)).1.getD k 0) := by
    intro k hk
    rw [List.getD_eq_getElem?_getD, List.getElem?_eq_getElem (by omega)]
    rfl
  refine ⟨⟨n2, fun k hk => ⟨n3 k _ (hg k hk), (hM k _ hk (hg k hk)).1, fun e he => hE k e _ he (by omega) (hg k hk)⟩⟩, fun k hk => ?_⟩
  rw [(hM k _ hk (hg k hk)).2]
  simp [sB]
theorem gA_ok {a : aT} {mem : Nat → Bool} (ha : aOk a) (hI : ∀ i, i < aN a → mem i = true → 0 ≤ aI a i) (t : Nat) : ∀ c ∈ (gA a mem t).1, rOk a mem c := by
  intro c hc
  have hv := gAt_val ha (aVal_first ha hI) t
  exact ⟨hv c hc, fun i hi hn => gAt_zero ha t c hc (hv c hc).1 i hi hn hv⟩
theorem nxtA_mem {a : aT} {mem : Nat → Bool} {k e c d : Nat} (he : e < 12) (hk0 : (gA a mem (12 * k)).1[k]? = some c) (hn : nxtA a mem c e = some d) : d ∈ (gA a mem (12 * k + (e + 1))).1 := by
  obtain ⟨j, hj, _⟩ := (gTo_at he hk0 0).2 d hn
  exact List.mem_of_getElem? hj
theorem rPl {a : aT} {mem : Nat → Bool} {w k e c d : Nat} {μ μ' : zM} {r : Int} (ha : aOk a) (hI : ∀ i, i < aN a → mem i = true → 0 ≤ aI a i) (he : e < 12) (hk0 : (gA a mem (12 * k)).1[k]? = some c) (hn : nxtA a mem c e = some d)
    (h : (∃ k' : Nat, ((gA a mem (12 * k + e)).1.map c6)[k']? = some (c6 d) ∧ r = (k' : Int) ∧ μ' = μ) ∨ (c6 d ∉ (gA a mem (12 * k + e)).1.map c6 ∧ ((gA a mem (12 * k + e)).1.map c6).length = 200 ∧ r = -1 ∧ μ' = μ) ∨ (c6 d ∉ (gA a mem (12 * k + e)).1.map c6 ∧ ((gA a mem (12 * k + e)).1.map c6).length < 200 ∧ r = (((gA a mem (12 * k + e)).1.map c6).length : Int) ∧ μ' = zup (zup μ 61 (200 * w + ((gA a mem (12 * k + e)).1.map c6).length) (c6 d : Int)) 60 w ((((gA a mem (12 * k + e)).1.map c6).length + 1 : Nat) : Int))) :
    (0 ≤ r ∧ ((∃ j : Nat, (gA a mem (12 * k + e)).1[j]? = some d ∧ r = (j : Int) ∧ μ' = μ) ∨ (d ∉ (gA a mem (12 * k + e)).1 ∧ (gA a mem (12 * k + e)).1.length < 200 ∧ r = ((gA a mem (12 * k + e)).1.length : Int) ∧ μ' = zup (zup μ 61 (200 * w + (gA a mem (12 * k + e)).1.length) (c6 d : Int)) 60 w (((gA a mem (12 * k + e)).1.length + 1 : Nat) : Int)))) ∨ (r = -1 ∧ gMany (nxtA a mem) (cod (aFirst a mem)) ∧ μ' = μ) := by
  have hok := gA_ok (mem := mem) ha hI
  have hd := hok _ d (nxtA_mem he hk0 hn)
  rw [List.length_map] at h
  rcases h with ⟨j, h1, h2, h3⟩ | ⟨h1, h2, h3, h4⟩ | ⟨h1, h2, h3, h4⟩
  · obtain ⟨p, hp, hq⟩ := getM h1
    have := c6_inj ha (hok _ p (List.mem_of_getElem? hp)) hd hq
    subst this
    exact Or.inl ⟨by omega, Or.inl ⟨j, hp, h2, h3⟩⟩
  · have hm : d ∉ (gA a mem (12 * k + e)).1 := fun h => h1 (List.mem_map_of_mem h)
    refine Or.inr ⟨h3, ⟨12 * k + (e + 1), ?_⟩, h4⟩
    have := (rSt he hk0 (v := ((gA a mem (12 * k + e)).1.length : Int)) (L' := (gA a mem (12 * k + e)).1 ++ [d]) (Or.inr ⟨d, hn, Or.inr ⟨hm, rfl, rfl⟩⟩)).1
    rw [this]
    simp only [List.length_append, List.length_cons, List.length_nil]
    omega
  · have hm : d ∉ (gA a mem (12 * k + e)).1 := fun h => h1 (List.mem_map_of_mem h)
    exact Or.inl ⟨by omega, Or.inr ⟨hm, h2, h3, h4⟩⟩
theorem c6_max (c : Nat) : c6 c < 2000 := by
  have h0 := dig_lt c 0
  have h1 := dig_lt c 1
  have h2 := dig_lt c 2
  have h3 := dig_lt c 3
  unfold c6
  omega
theorem aAft_r (a : aT) (mem : Nat → Bool) (c e : Nat) : -2 ≤ aAft a mem c e ∧ aAft a mem c e ≤ 2000 := by
  have := c6_max (cod (aStep a mem c e))
  unfold aAft
  split
  · split <;> omega
  · omega
theorem aAft_m {a : aT} {mem : Nat → Bool} {c e : Nat} : aAft a mem c e ≤ -2 ↔ aMay a c e = false := by
  unfold aAft
  cases h : aMay a c e
  · simp
  · simp
    split <;> omega
theorem aAft_n {a : aT} {mem : Nat → Bool} {c e : Nat} (h : aAft a mem c e < 0) : nxtA a mem c e = none := by
  unfold aAft at h
  unfold nxtA
  cases h1 : aMay a c e <;> cases h2 : aFree a mem c e <;> simp [h1, h2] at h ⊢
  omega
theorem aAft_s {a : aT} {mem : Nat → Bool} {c e : Nat} (h : ¬ aAft a mem c e < 0) : ∃ d, nxtA a mem c e = some d ∧ aAft a mem c e = (c6 d : Int) := by
  unfold aAft at h ⊢
  unfold nxtA
  cases h1 : aMay a c e <;> cases h2 : aFree a mem c e <;> simp [h1, h2] at h ⊢
/-- the code of the first node, from the last automaton on -/
def t6 (f : Nat → Nat) (n : Nat) : Nat → Nat
  | 0 => 0
  | d + 1 => 6 * t6 f n d + f (n - 1 - d)
theorem t6_c6 {f : Nat → Nat} {n : Nat} (hn : n ≤ 4) (h0 : ∀ i, n ≤ i → i < 4 → f i = 0) (h8 : ∀ i, i < 4 → f i < 8) : t6 f n n = c6 (cod f) := by
  have e0 := dig_cod h8 (i := 0) (by omega)
  have e1 := dig_cod h8 (i := 1) (by omega)
  have e2 := dig_cod h8 (i := 2) (by omega)
  have e3 := dig_cod h8 (i := 3) (by omega)
  unfold c6
  rw [e0, e1, e2, e3]
  rcases (show n = 0 ∨ n = 1 ∨ n = 2 ∨ n = 3 ∨ n = 4 by omega) with h | h | h | h | h <;> subst h
  · rw [h0 0 (by omega) (by omega), h0 1 (by omega) (by omega), h0 2 (by omega) (by omega), h0 3 (by omega) (by omega)]
    simp [t6]
  · rw [h0 1 (by omega) (by omega), h0 2 (by omega) (by omega), h0 3 (by omega) (by omega)]
    simp [t6]
  · rw [h0 2 (by omega) (by omega), h0 3 (by omega) (by omega)]
    simp [t6]
    omega
  · rw [h0 3 (by omega) (by omega)]
    simp [t6]
    omega
  · simp [t6]
    omega
theorem t6_first {a : aT} {mem : Nat → Bool} (ha : aOk a) : t6 (aFirst a mem) (aN a) (aN a) = c6 (cod (aFirst a mem)) := t6_c6 ha.1 (fun i h _ => by unfold aFirst; rw [if_neg (by omega)]) (fun i _ => aFirst_lt ha _ i)
