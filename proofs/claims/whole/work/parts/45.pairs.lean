/-! pairs of nodes of two syntheses -/
def nxQ (f1 f2 : Nat → Nat → Nat) (p e : Nat) : Option Nat := if f1 (p / 256) e ≠ 0 ∧ f2 (p % 256) e ≠ 0 then some (256 * (f1 (p / 256) e - 1) + (f2 (p % 256) e - 1)) else none
def pFn (L1 L2 : List Nat) (p : Nat) : Nat := L1.getD (p / 256) 0 ||| L2.getD (p % 256) 0
abbrev rg (a : aT) (x N : Nat) : gT := sg a (aMem a (some x)) N
def pH (a : aT) (x y N1 : Nat) (K1 : Nat → Bool) (M1 N2 : Nat) (K2 : Nat → Bool) (M2 : Nat) : Prop := aOk a ∧ (x < aN a ∧ aP a x = false) ∧ (y < aN a ∧ aP a y = false) ∧ sMath a (aMem a (some x)) N1 K1 M1 ∧ sMath a (aMem a (some y)) N2 K2 M2 ∧ 0 < M1 ∧ 0 < M2
abbrev pq (a : aT) (x y N1 : Nat) (K1 : Nat → Bool) (N2 : Nat) (K2 : Nat → Bool) : Nat → Nat → Option Nat := nxQ (ktg (gtg (rg a x N1)) K1) (ktg (gtg (rg a y N2)) K2)
abbrev pcd (a : aT) (x y N1 N2 : Nat) : Nat → Nat := pFn (rg a x N1).1 (rg a y N2).1
def pMap (f : Nat → Nat) (g : gT) : gT := (g.1.map f, g.2.1, g.2.2)
def pGoal (a : aT) (x y N1 N2 p : Nat) : Bool := sG a (aMem a (some x)) (rg a x N1) (p / 256) && sG a (aMem a (some y)) (rg a y N2) (p % 256)
def pOk (a : aT) (x y N1 N2 p : Nat) : Prop := p / 256 < N1 ∧ p % 256 < N2 ∧ (∀ i, i < aN a → aP a i = true → dig ((rg a x N1).1.getD (p / 256) 0) i = dig ((rg a y N2).1.getD (p % 256) 0) i) ∧ (x = y → (rg a x N1).1.getD (p / 256) 0 = (rg a y N2).1.getD (p % 256) 0)
theorem dig_or (c d i : Nat) : dig (c ||| d) i = dig c i ||| dig d i := by
  apply Nat.eq_of_testBit_eq
  intro k
  rw [Nat.testBit_or, dig_bit, dig_bit, dig_bit, Nat.testBit_or]
  cases decide (k < 3) <;> simp
theorem getD_of {L : List Nat} {k c : Nat} (h : L[k]? = some c) : L.getD k 0 = c := by
  simp [List.getD_eq_getElem?_getD, h]
theorem aMem_P {a : aT} {x i : Nat} (hi : i < aN a) (hp : aP a i = true) : aMem a (some x) i = true := by simp [aMem, hi, hp]
theorem aStep_plant {a : aT} {x y c d e i : Nat} (hi : i < aN a) (hp : aP a i = true) (h : dig c i = dig d i) : aStep a (aMem a (some x)) c e i = aStep a (aMem a (some y)) d e i := by
  unfold aStep
  simp only [hi, aMem_P hi hp, h, true_and]
theorem nxtA_some {a : aT} {mem : Nat → Bool} {c e d : Nat} (h : nxtA a mem c e = some d) : d = cod (aStep a mem c e) := by
  unfold nxtA at h
  split at h
  · cases h; rfl
  · cases h
theorem pOk_first {a : aT} {x y N1 M1 N2 M2 : Nat} {K1 K2 : Nat → Bool} (h : pH a x y N1 K1 M1 N2 K2 M2) : pOk a x y N1 N2 0 := by
  obtain ⟨ha, hx, hy, h1, h2, -, -⟩ := h
  have e1 : (rg a x N1).1.getD (0 / 256) 0 = cod (aFirst a (aMem a (some x))) := by
    apply getD_of
    exact gAt_get (Nat.zero_le _) (by simp [gAt])
  have e2 : (rg a y N2).1.getD (0 % 256) 0 = cod (aFirst a (aMem a (some y))) := by
    apply getD_of
    exact gAt_get (Nat.zero_le _) (by simp [gAt])
  refine ⟨by simpa using h1.2.1.1, by simpa using h2.2.1.1, fun i hi hp => ?_, fun hxy => ?_⟩
  · have := ha.1
    rw [e1, e2, dig_cod (fun j _ => aFirst_lt ha _ j) (by omega), dig_cod (fun j _ => aFirst_lt ha _ j) (by omega)]
    unfold aFirst
    simp only [hi, aMem_P hi hp, true_and]
  · rw [e1, e2, hxy]
theorem pOk_step {a : aT} {x y N1 M1 N2 M2 : Nat} {K1 K2 : Nat → Bool} (h : pH a x y N1 K1 M1 N2 K2 M2) {p q e : Nat} (hp : pOk a x y N1 N2 p) (he : e < 12) (hn : pq a x y N1 K1 N2 K2 p e = some q) : pOk a x y N1 N2 q ∧ q / 256 = ktg (gtg (rg a x N1)) K1 (p / 256) e - 1 ∧ q % 256 = ktg (gtg (rg a y N2)) K2 (p % 256) e - 1 := by
  obtain ⟨ha, hx, hy, h1, h2, -, -⟩ := h
  obtain ⟨p1, p2, p3, p4⟩ := hp
  have hn' : nxQ (ktg (gtg (rg a x N1)) K1) (ktg (gtg (rg a y N2)) K2) p e = some q := hn
  unfold nxQ at hn'
  split at hn'
  · next hc =>
    obtain ⟨c, d, g1, g2, g3, g4, g5⟩ := sMath_tg h1 p1 he hc.1
    obtain ⟨c', d', g1', g2', g3', g4', g5'⟩ := sMath_tg h2 p2 he hc.2
    have n2 := h2.2.1.2
    have z1 := hc.1
    have z2 := hc.2
    have b1 : ktg (gtg (rg a x N1)) K1 (p / 256) e ≤ N1 := g4
    have b2 : ktg (gtg (rg a y N2)) K2 (p % 256) e ≤ N2 := g4'
    have q1 : q / 256 = ktg (gtg (rg a x N1)) K1 (p / 256) e - 1 := by
      have := Option.some.inj hn'
      omega
    have q2 : q % 256 = ktg (gtg (rg a y N2)) K2 (p % 256) e - 1 := by
      have := Option.some.inj hn'
      omega
    refine ⟨⟨by rw [q1]; omega, by rw [q2]; omega, fun i hi hpi => ?_, fun hxy => ?_⟩, q1, q2⟩
    · have hN := ha.1
      have v1 := h1.2.2.2.2.2.2.2 c (List.mem_of_getElem? g1)
      have v2 := h2.2.2.2.2.2.2.2 c' (List.mem_of_getElem? g1')
      have p3' := p3 i hi hpi
      rw [getD_of g1, getD_of g1'] at p3'
      rw [q1, q2, getD_of g3, getD_of g3', nxtA_some g2, nxtA_some g2', dig_cod (fun j _ => aStep_lt ha _ v1 he j) (by omega), dig_cod (fun j _ => aStep_lt ha _ v2 he j) (by omega)]
      exact aStep_plant hi hpi p3'
    · have p4' := p4 hxy
      rw [getD_of g1, getD_of g1'] at p4'
      rw [q1, q2, getD_of g3, getD_of g3', nxtA_some g2, nxtA_some g2', p4', hxy]
  · cases hn'
theorem gAt_pOk {a : aT} {x y N1 M1 N2 M2 : Nat} {K1 K2 : Nat → Bool} (h : pH a x y N1 K1 M1 N2 K2 M2) : ∀ t, ∀ p ∈ (gAt (pq a x y N1 K1 N2 K2) 0 t).1, pOk a x y N1 N2 p
  | 0, p, hp => by
    have : p = 0 := by simpa [gAt] using hp
    rw [this]
    exact pOk_first h
  | t + 1, p, hp => by
    have ih := gAt_pOk h t
    simp only [gAt] at hp
    unfold gStep at hp
    split at hp
    · exact ih p hp
    · next c1 hc1 =>
      split at hp
      · exact ih p hp
      · next d hd =>
        split at hp
        · exact ih p hp
        · rcases List.mem_append.mp hp with h' | h'
          · exact ih p h'
          · have hpd : p = d := by simpa using h'
            subst hpd
            exact (pOk_step h (ih c1 (List.mem_of_getElem? hc1)) (Nat.mod_lt _ (by decide)) hd).1
theorem pInj {a : aT} {x y N1 M1 N2 M2 : Nat} {K1 K2 : Nat → Bool} (h : pH a x y N1 K1 M1 N2 K2 M2) {p q : Nat} (hp : pOk a x y N1 N2 p) (hq : pOk a x y N1 N2 q) (he : pcd a x y N1 N2 p = pcd a x y N1 N2 q) : p = q := by
  obtain ⟨ha, hx, hy, h1, h2, -, -⟩ := h
  obtain ⟨p1, p2, p3, p4⟩ := hp
  obtain ⟨q1, q2, q3, q4⟩ := hq
  have hN := ha.1
  have ex : ∀ {g : gT} {k : Nat}, k < g.1.length → g.1[k]? = some (g.1.getD k 0) := by
    intro g k hk
    rw [List.getElem?_eq_getElem hk]
    simp [hk]
  have l1 : (rg a x N1).1.length = N1 := h1.1.1
  have l2 : (rg a y N2).1.length = N2 := h2.1.1
  have gp1 := ex (g := rg a x N1) (k := p / 256) (by omega)
  have gq1 := ex (g := rg a x N1) (k := q / 256) (by omega)
  have gp2 := ex (g := rg a y N2) (k := p % 256) (by omega)
  have gq2 := ex (g := rg a y N2) (k := q % 256) (by omega)
  have ed : ∀ i, dig ((rg a x N1).1.getD (p / 256) 0) i ||| dig ((rg a y N2).1.getD (p % 256) 0) i = dig ((rg a x N1).1.getD (q / 256) 0) i ||| dig ((rg a y N2).1.getD (q % 256) 0) i := by
    intro i
    rw [← dig_or, ← dig_or]
    exact congrArg (fun c => dig c i) he
  have lt1 := (h1.2.2.2.2.2.2.2 _ (List.mem_of_getElem? gp1)).1
  have lt2 := (h1.2.2.2.2.2.2.2 _ (List.mem_of_getElem? gq1)).1
  have lt3 := (h2.2.2.2.2.2.2.2 _ (List.mem_of_getElem? gp2)).1
  have lt4 := (h2.2.2.2.2.2.2.2 _ (List.mem_of_getElem? gq2)).1
  have z1 := fun i hi hn => sMath_zero (i := i) ha h1 (List.mem_of_getElem? gp1) hi hn
  have z2 := fun i hi hn => sMath_zero (i := i) ha h1 (List.mem_of_getElem? gq1) hi hn
  have z3 := fun i hi hn => sMath_zero (i := i) ha h2 (List.mem_of_getElem? gp2) hi hn
  have z4 := fun i hi hn => sMath_zero (i := i) ha h2 (List.mem_of_getElem? gq2) hi hn
  have nm : ∀ (w i : Nat), ¬ (aP a i = true) → i ≠ w → ¬ (i < aN a ∧ aMem a (some w) i = true) := by
    intro w i hpi hiw hc
    have := hc.2
    simp [aMem, hpi, hiw] at this
  have both : ∀ i, i < 4 → dig ((rg a x N1).1.getD (p / 256) 0) i = dig ((rg a x N1).1.getD (q / 256) 0) i ∧ dig ((rg a y N2).1.getD (p % 256) 0) i = dig ((rg a y N2).1.getD (q % 256) 0) i := by
    intro i hi
    have e := ed i
    by_cases hxy : x = y
    · have e1 := p4 hxy
      have e2 := q4 hxy
      rw [← e1, ← e2, Nat.or_self, Nat.or_self] at e
      rw [← e1, ← e2]
      exact ⟨e, e⟩
    · by_cases hc : i < aN a ∧ aP a i = true
      · have e1 := p3 i hc.1 hc.2
        have e2 := q3 i hc.1 hc.2
        rw [← e1, ← e2, Nat.or_self, Nat.or_self] at e
        rw [← e1, ← e2]
        exact ⟨e, e⟩
      · by_cases hin : i < aN a
        · have hpi : ¬ (aP a i = true) := fun h => hc ⟨hin, h⟩
          by_cases hix : i = x
          · have hiy : i ≠ y := fun h => hxy (hix.symm.trans h)
            have w1 := z3 i hi (nm y i hpi hiy)
            have w2 := z4 i hi (nm y i hpi hiy)
            rw [w1, w2, Nat.or_zero, Nat.or_zero] at e
            exact ⟨e, by rw [w1, w2]⟩
          · have w1 := z1 i hi (nm x i hpi hix)
            have w2 := z2 i hi (nm x i hpi hix)
            rw [w1, w2, Nat.zero_or, Nat.zero_or] at e
            exact ⟨by rw [w1, w2], e⟩
        · rw [z1 i hi (fun h => hin h.1), z2 i hi (fun h => hin h.1), z3 i hi (fun h => hin h.1), z4 i hi (fun h => hin h.1)]
          exact ⟨rfl, rfl⟩
  have c1 := dig_ext lt1 lt2 (fun i hi => (both i hi).1)
  have c2 := dig_ext lt3 lt4 (fun i hi => (both i hi).2)
  rw [c1] at gp1
  rw [c2] at gp2
  have k1 := nodup_get (gAt_nodup _ _ _) gp1 gq1
  have k2 := nodup_get (gAt_nodup _ _ _) gp2 gq2
  omega
theorem getM {L : List Nat} {f : Nat → Nat} {j c : Nat} (h : (L.map f)[j]? = some c) : ∃ p, L[j]? = some p ∧ f p = c := by
  rw [List.getElem?_map] at h
  cases hp : L[j]? with
  | none => rw [hp] at h; cases h
  | some p => rw [hp] at h; exact ⟨p, rfl, Option.some.inj h⟩
theorem pLinked {nxt : Nat → Nat → Option Nat} {c0 k e p q : Nat} {f : Nat → Nat} {μ μ' : zM} {r : Int} (he : e < 12) (hG : gRep (pMap f (gAt nxt c0 (12 * k + e))) μ) (hk : (gAt nxt c0 (12 * k + e)).1[k]? = some p) (hn : nxt p e = some q)
    (hi : ∀ p' ∈ (gAt nxt c0 (12 * k + e)).1, f p' = f q → p' = q)
    (h : (∃ j : Nat, (pMap f (gAt nxt c0 (12 * k + e))).1[j]? = some (f q) ∧ r = ((j + 1 : Nat) : Int) ∧ gRep ((pMap f (gAt nxt c0 (12 * k + e))).1, (pMap f (gAt nxt c0 (12 * k + e))).2.1 ++ [(12 * (k + 1) + e, j + 1)], (pMap f (gAt nxt c0 (12 * k + e))).2.2) μ') ∨ (f q ∉ (pMap f (gAt nxt c0 (12 * k + e))).1 ∧ (pMap f (gAt nxt c0 (12 * k + e))).1.length < 200 ∧ r = (((pMap f (gAt nxt c0 (12 * k + e))).1.length + 1 : Nat) : Int) ∧ gRep ((pMap f (gAt nxt c0 (12 * k + e))).1 ++ [f q], (pMap f (gAt nxt c0 (12 * k + e))).2.1 ++ [(12 * (k + 1) + e, (pMap f (gAt nxt c0 (12 * k + e))).1.length + 1)], (pMap f (gAt nxt c0 (12 * k + e))).2.2 ++ [12 * (k + 1) + e]) μ') ∨ (f q ∉ (pMap f (gAt nxt c0 (12 * k + e))).1 ∧ (pMap f (gAt nxt c0 (12 * k + e))).1.length = 200 ∧ r = 0 ∧ μ' = μ)) :
    (∃ j : Nat, r = ((j + 1 : Nat) : Int) ∧ j < 200 ∧ gRep (pMap f (gAt nxt c0 (12 * k + (e + 1)))) μ' ∧ (gAt nxt c0 (12 * k + (e + 1))).1[j]? = some q ∧ ∀ (i p' : Nat), i ≠ j → (gAt nxt c0 (12 * k + (e + 1))).1[i]? = some p' → (gAt nxt c0 (12 * k + e)).1[i]? = some p') ∨ (r = 0 ∧ gMany nxt c0 ∧ μ' = μ) := by
  have hnd := gAt_nodup nxt c0 (12 * k + e)
  have hnext := gAt_next nxt c0 (k := k) he
  have hlen := hG.1.2.1
  have hmany : ∀ s, 200 < (gAt nxt c0 s).1.length → gMany nxt c0 := fun s hs => ⟨s, hs⟩
  have hm1 := hmany (12 * k + (e + 1))
  rw [hnext] at hm1 ⊢
  generalize hg : gAt nxt c0 (12 * k + e) = g at *
  obtain ⟨L, ES, FB⟩ := g
  simp only [pMap, List.length_map] at h hG hlen ⊢
  rcases h with ⟨j, h1, h2, h3⟩ | ⟨h1, h2, h3, h4⟩ | ⟨h1, h2, h3, h4⟩
  · obtain ⟨p', g1, g2⟩ := getM h1
    have := hi p' (List.mem_of_getElem? g1) g2
    subst this
    have hl := (List.getElem?_eq_some_iff.mp g1).1
    rw [gStep_old hk hn g1 (fun i hi => nodup_get hnd hi g1)]
    exact Or.inl ⟨j, h2, by omega, h3, g1, fun _ _ _ h => h⟩
  · have hq : q ∉ L := fun hq => h1 (List.mem_map_of_mem hq)
    rw [gStep_new hk hn hq]
    refine Or.inl ⟨L.length, h3, h2, ?_, by simp, fun i p' hi' hp' => ?_⟩
    · simp only [List.map_append, List.map_cons, List.map_nil]
      exact h4
    · by_cases hl : i < L.length
      · rw [List.getElem?_append_left hl] at hp'
        exact hp'
      · have := (List.getElem?_eq_some_iff.mp hp').1
        simp only [List.length_append, List.length_cons, List.length_nil] at this
        omega
  · have hq : q ∉ L := fun hq => h1 (List.mem_map_of_mem hq)
    refine Or.inr ⟨h3, hm1 ?_, h4⟩
    rw [gStep_new hk hn hq]
    simp only [List.length_append, List.length_cons, List.length_nil]
    omega
def pRow (O1 O2 L : List Nat) (μ : zM) : Prop := ∀ i p : Nat, L[i]? = some p → (∃ s : Nat, O1[s]? = some (p / 256) ∧ μ 31 (i + 1) = ((s + 1 : Nat) : Int)) ∧ ∃ s : Nat, O2[s]? = some (p % 256) ∧ μ 32 (i + 1) = ((s + 1 : Nat) : Int)
def pMk (f : Nat → Bool) (L : List Nat) (k : Nat) (μ : zM) : Prop := ∀ i p : Nat, i < k → L[i]? = some p → μ 18 (i + 1) = zB (f p) ∧ μ 19 (i + 1) = 1
theorem mDist_0 {tg : Nat → Nat → Nat} {K G : Nat → Bool} {k : Nat} {v : Int} (h : mDist tg K G k v) (hK : K k = true) : v = 0 ↔ G k = true := by
  rcases h with ⟨h1, h2⟩ | ⟨d, h1, h2, h3, h4⟩
  · have := h2 0
    simp only [rch, hK, Bool.true_and] at this
    rw [this]
    constructor
    · intro h; omega
    · intro h; cases h
  · constructor
    · intro h
      have : d = 0 := by omega
      subst this
      simp only [rch, hK, Bool.true_and] at h3
      exact h3
    · intro h
      by_cases hd : d = 0
      · omega
      · have := h4 0 (by omega)
        simp only [rch, hK, h] at this
        cases this
