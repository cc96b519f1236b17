/-! the reference's world -/
theorem aMay_D {a : aT} (ha : aOk a) {c e : Nat} (he : e < 12) (h : aMay a c e = true) : aD a e = true := by
  unfold aMay at h
  rw [Bool.and_eq_true] at h
  obtain ⟨i, hi, h1⟩ := any_iff.mp h.1
  rw [Bool.and_eq_true] at h1
  unfold aH at h1
  obtain ⟨s, hs, h2⟩ := any_iff.mp h1.2
  exact ((ha.2 i hi).2.2 s e hs he).2.2 (by simpa using h2)
theorem gtg_le {nxt : Nat → Nat → Option Nat} {c0 N k e : Nat} (hF : gFin nxt c0 N) (hk : k < N) (he : e < 12) : gtg (gAt nxt c0 (12 * N)) k e ≤ N := by
  obtain ⟨c, h1, h2, h3⟩ := gTo_fin hF hk he
  have hN := hF.1
  show gTo (gAt nxt c0 (12 * N)) (12 * (k + 1) + e) ≤ N
  cases hn : nxt c e with
  | none => rw [h2 hn]; omega
  | some d =>
    obtain ⟨j, h4, h5⟩ := h3 d hn
    have := (List.getElem?_eq_some_iff.mp h4).1
    rw [h5]
    omega
theorem rGr_T {a : aT} {mem : Nat → Bool} {w N : Nat} {μ : zM} (ha : aOk a) (hc : rRep a μ) (hF : gFin (nxtA a mem) (cod (aFirst a mem)) N) (hN : N ≤ 200) (h : rGr a mem w N μ) : rT N (gtg (sg a mem N)) (sU a (sg a mem N)) (sC a) (sG a mem (sg a mem N)) w μ := by
  refine ⟨h.1, hN, fun k hk => ⟨(h.2 k hk).2.1, fun e he => ⟨⟨((h.2 k hk).2.2 e he).1, gtg_le hF hk he⟩, ((h.2 k hk).2.2 e he).2, fun hu => ?_⟩⟩⟩
  have hD := aMay_D ha he hu
  rw [(hc.2.2 e he).2.2 hD]
  unfold sC
  rw [hD, Bool.true_and]
theorem rGr_fr {a : aT} {mem : Nat → Bool} {w N : Nat} {μ μ' : zM} (h : rGr a mem w N μ) (hN : N ≤ 200) (hq : ∀ q x, 60 ≤ q → q ≤ 64 → rIn w q x → μ' q x = μ q x) : rGr a mem w N μ' := by
  refine ⟨by rw [hq _ _ (by omega) (by omega) (by unfold rIn; omega)]; exact h.1, fun k hk => ⟨?_, ?_, fun e he => ?_⟩⟩
  · rw [hq _ _ (by omega) (by omega) (by unfold rIn; omega)]; exact (h.2 k hk).1
  · rw [hq _ _ (by omega) (by omega) (by unfold rIn; omega)]; exact (h.2 k hk).2.1
  · rw [hq _ _ (by omega) (by omega) (by unfold rIn; omega), hq _ _ (by omega) (by omega) (by unfold rIn; omega)]; exact (h.2 k hk).2.2 e he
theorem rBd_fr {w N : Nat} {K : Nat → Bool} {μ μ' : zM} (h : rBd w N K μ) (hN : N ≤ 200) (hq : ∀ x, rIn w 65 x → μ' 65 x = μ 65 x) : rBd w N K μ' := by
  intro k hk
  rw [hq _ (by unfold rIn; omega)]
  exact h k hk
theorem gAbove_B (N : Nat) (tg : Nat → Nat → Nat) (U : Nat → Nat → Bool) (C B G : Nat → Bool) : gAbove N tg U C B G B := ⟨fun _ _ h => h, fun _ hZ => hZ.1⟩
theorem rBd_K {w N : Nat} {K K' : Nat → Bool} {μ : zM} (h : rBd w N K μ) (he : ∀ k, k < N → K' k = K k) : rBd w N K' μ := by
  intro k hk
  rw [he k hk]
  exact h k hk
def rWd (a : aT) (N : Nat) (K : Nat → Bool) (μ : zM) : Prop := ∀ k, k < N → K k = false → (∀ j, j < k → K j = true) → ∀ i y : Nat, i < (wB (fb (eg a N)) 200 k).length → (wB (fb (eg a N)) 200 k)[(wB (fb (eg a N)) 200 k).length - 1 - i]? = some y → μ 73 i = (y : Int)
def rVal (a : aT) (v : vT) (μ : zM) : Prop := (v = none ∧ rNo μ) ∨ ∃ N K M p, v = some (N, K, M, p) ∧ sMath a (aMem a none) N K M ∧ μ 51 17 = 1 ∧ rO N (eO a N K M) μ ∧ rGr a (aMem a none) 0 N μ ∧ rBd 0 N K μ ∧ sWl (eg a N) K (μ 51 26) ∧ rWd a N K μ ∧ (0 < M → p < M ∧ ∃ k : Nat, (eO a N K M)[p]? = some k ∧ μ 51 28 = (k : Int))
def rWor (a : aT) (v : vT) (μ : zM) : Prop := aOk a ∧ rRep a μ ∧ rVal a v μ
def r51 (x : Nat) : Prop := x = 17 ∨ x = 18 ∨ x = 26 ∨ x = 28
theorem rVal_fr {a : aT} {v : vT} {μ μ' : zM} (h : rVal a v μ) (h51 : ∀ x, r51 x → μ' 51 x = μ 51 x) (h0 : ∀ q x, 60 ≤ q → q ≤ 65 → rIn 0 q x → μ' q x = μ q x) (h67 : μ' 67 = μ 67) (h68 : μ' 68 = μ 68) (h73 : μ' 73 = μ 73) : rVal a v μ' := by
  have e17 := h51 17 (Or.inl rfl)
  have e18 := h51 18 (Or.inr (Or.inl rfl))
  have e26 := h51 26 (Or.inr (Or.inr (Or.inl rfl)))
  have e28 := h51 28 (Or.inr (Or.inr (Or.inr rfl)))
  rcases h with ⟨h1, h2⟩ | ⟨N, K, M, p, h1, h2, h3, h4, h5, h6, h7, h8, h9⟩
  · exact Or.inl ⟨h1, by unfold rNo; rw [e17, e18]; exact h2⟩
  · refine Or.inr ⟨N, K, M, p, h1, h2, by rw [e17]; exact h3, rO_congr h4 e18 h68 h67, rGr_fr h5 h2.2.1.2 (fun q x q1 q2 hx => h0 q x q1 (by omega) hx), rBd_fr h6 h2.2.1.2 (fun x hx => h0 65 x (by omega) (by omega) hx), by rw [e26]; exact h7, by unfold rWd; rw [h73]; exact h8, by rw [e28]; exact h9⟩
theorem rWor_fr {a : aT} {v : vT} {μ μ' : zM} (h : rWor a v μ) (h51 : ∀ x, x = 1 ∨ r51 x → μ' 51 x = μ 51 x) (hq : ∀ q, 52 ≤ q → q ≤ 59 → μ' q = μ q) (h0 : ∀ q x, 60 ≤ q → q ≤ 65 → rIn 0 q x → μ' q x = μ q x) (h67 : μ' 67 = μ 67) (h68 : μ' 68 = μ 68) (h73 : μ' 73 = μ 73) : rWor a v μ' :=
  ⟨h.1, rRep_congr h.2.1 (h51 1 (Or.inl rfl)) hq, rVal_fr h.2.2 (fun x hx => h51 x (Or.inr hx)) h0 h67 h68 h73⟩
theorem rWor_thr {a : aT} {v : vT} {μ : zM} (h : rWor a v μ) (t : Int) : rWor a v (zup μ 51 0 t) :=
  rWor_fr h (fun x hx => by rw [zup_at, if_neg (by unfold r51 at hx; omega)]) (fun q h1 h2 => zup_ne _ _ _ (by omega)) (fun q x h1 h2 _ => by rw [zup_ne _ _ _ (by omega)]) (zup_ne _ _ _ (by decide)) (zup_ne _ _ _ (by decide)) (zup_ne _ _ _ (by decide))
theorem bT_true (tg : Nat → Nat → Nat) (K : Nat → Bool) : bT tg K true = tg := by funext k e; simp [bT]
theorem bT_false (tg : Nat → Nat → Nat) (K : Nat → Bool) : bT tg K false = ktg tg K := by funext k e; simp [bT]
theorem range_get {n j x : Nat} (h : (List.range n)[j]? = some x) : x = j ∧ j < n := by
  have hj := (List.getElem?_eq_some_iff.mp h).1
  rw [List.length_range] at hj
  rw [List.getElem?_range hj] at h
  exact ⟨(Option.some.inj h).symm, hj⟩
theorem bLost_yes {nxt : Nat → Nat → Option Nat} {c0 N i x : Nat} {K G : Nat → Bool} {μ : zM} (hF : gFin nxt c0 N) (hx : (gAt (nxT (bT (gtg (gAt nxt c0 (12 * N))) K true)) 0 (12 * i)).1[i]? = some x) (hS : bS K G true x = true)
    (hSn : ∀ j y : Nat, j < i → (gAt (nxT (bT (gtg (gAt nxt c0 (12 * N))) K true)) 0 (12 * i)).1[j]? = some y → bS K G true y = false) (hQ : bQ (gAt (nxT (bT (gtg (gAt nxt c0 (12 * N))) K true)) 0 (12 * i)) N μ) :
    x = i ∧ i < N ∧ K i = false ∧ (∀ j, j < i → K j = true) ∧ dp (gAt (nxT (bT (gtg (gAt nxt c0 (12 * N))) K true)) 0 (12 * i)) i = (wB (fb (gAt nxt c0 (12 * N))) 200 i).length ∧ ∀ j, 1 ≤ j → j ≤ i → μ 70 j = ((fb (gAt nxt c0 (12 * N)) j % 12 : Nat) : Int) ∧ μ 69 j = ((fb (gAt nxt c0 (12 * N)) j / 12 - 1 : Nat) : Int) := by
  rw [bT_true, bIso hF] at hx hQ hSn
  rw [bT_true, bIso hF]
  obtain ⟨rfl, hi⟩ := range_get hx
  have hN := hF.1
  have hxN : (gAt nxt c0 (12 * x)).1.length ≤ N := by
    by_cases h9 : x ≤ N
    · rw [← hN]; exact gAt_len (by omega)
    · rw [show 12 * x = 12 * N + (12 * x - 12 * N) by omega, gFin_stable hF]; omega
  have hxn : x < N := by omega
  have hw : ∀ j, j < (gAt nxt c0 (12 * x)).1.length → wB (fb (gAt nxt c0 (12 * N))) 200 j = wB (fb (gAt nxt c0 (12 * x))) 200 j := fun j hj => by
    have := wB_pre hj (12 * N - 12 * x)
    rwa [show 12 * x + (12 * N - 12 * x) = 12 * N by omega] at this
  have hf : ∀ j, j < (gAt nxt c0 (12 * x)).1.length → fb (gAt nxt c0 (12 * N)) j = fb (gAt nxt c0 (12 * x)) j := fun j hj => by
    have := fb_pre hj (12 * N - 12 * x)
    rwa [show 12 * x + (12 * N - 12 * x) = 12 * N by omega] at this
  refine ⟨rfl, hxn, by simpa [bS] using hS, fun j hj => ?_, by rw [hw x hi]; rfl, fun j h1 h2 => ?_⟩
  · have := hSn j j hj (List.getElem?_range (by omega))
    simpa [bS] using this
  · have hj : j < (gAt nxt c0 (12 * x)).1.length := by omega
    obtain ⟨_, _, _, h4⟩ := hQ.2.2 j j (List.getElem?_range hj)
    obtain ⟨h5, y, h6, h7⟩ := h4 h1
    obtain ⟨rfl, _⟩ := range_get h6
    rw [hf j hj]
    exact ⟨h5, h7⟩
theorem bLost_no {nxt : Nat → Nat → Option Nat} {c0 N i : Nat} {K G : Nat → Bool} (hF : gFin nxt c0 N) (hk : ∀ j, j < i → j < (gAt (nxT (bT (gtg (gAt nxt c0 (12 * N))) K true)) 0 (12 * j)).1.length) (hl : (gAt (nxT (bT (gtg (gAt nxt c0 (12 * N))) K true)) 0 (12 * i)).1.length = i)
    (hSn : ∀ j y : Nat, j < i → (gAt (nxT (bT (gtg (gAt nxt c0 (12 * N))) K true)) 0 (12 * i)).1[j]? = some y → bS K G true y = false) : ∀ k, k < N → K k = true := by
  have hk2 : ∀ j, j < i → j < (gAt nxt c0 (12 * j)).1.length := fun j hj => by
    have := hk j hj
    rw [bT_true, bIso hF, List.length_range] at this
    exact this
  rw [bT_true, bIso hF] at hl hSn
  rw [List.length_range] at hl
  have := gFin_unique hF ⟨hl, hk2⟩
  subst this
  intro k hk'
  have := hSn k k hk' (List.getElem?_range (by omega))
  simpa [bS] using this
theorem oAt_first (tg : Nat → Nat → Nat) (K : Nat → Bool) : oAt tg K (12 * 0) = if K 0 = true then oIns [] 0 else [] := by
  unfold oAt oIns
  simp [gAt]
theorem oAt_keep {tg : Nat → Nat → Nat} {K : Nat → Bool} {s e k : Nat} (he : e < 12) (hk : (oAt tg K (12 * s + e))[s]? = some k) (h0 : tg k e ≠ 0) : oAt tg K (12 * s + (e + 1)) = if K (tg k e - 1) = true then oIns (oAt tg K (12 * s + e)) (tg k e - 1) else oAt tg K (12 * s + e) := by
  rw [oAt_next he hk]
  by_cases hK : K (tg k e - 1) = true
  · rw [ktg_t h0 hK, if_neg h0, if_pos hK]
  · rw [ktg_K (by simpa using hK), if_pos rfl, if_neg hK]
theorem oAt_skip {tg : Nat → Nat → Nat} {K : Nat → Bool} {s e k : Nat} (he : e < 12) (hk : (oAt tg K (12 * s + e))[s]? = some k) (h0 : tg k e = 0) : oAt tg K (12 * s + (e + 1)) = oAt tg K (12 * s + e) := by
  rw [oAt_next he hk, ktg_0 h0, if_pos rfl]
theorem rO_0 {n : Nat} {μ : zM} (h0 : μ 51 18 = 0) (h : ∀ k, k < n → μ 68 k = 0) : rO n [] μ := by
  refine ⟨h0, fun k hk _ => h k hk, fun s k hs => by simp at hs, ?_⟩
  rw [cnt_all n (fun k hk => by simp [h k hk])]
  simp
theorem sWl_un {g : gT} {K : Nat → Bool} {v v' : Int} (h : sWl g K v) (h' : sWl g K v') : v = v' := by
  rcases h with ⟨h1, h2⟩ | ⟨k, h1, h2, h3, h4⟩ <;> rcases h' with ⟨a1, a2⟩ | ⟨j, a1, a2, a3, a4⟩
  · rw [h1, a1]
  · have := h2 j a1; rw [a2] at this; cases this
  · have := a2 k h1; rw [h2] at this; cases this
  · have hkj : k = j := by
      rcases Nat.lt_trichotomy k j with h | h | h
      · have := a3 k h; rw [h2] at this; cases this
      · exact h
      · have := h3 j h; rw [a2] at this; cases this
    subst hkj
    rw [h4, a4]
