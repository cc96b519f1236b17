/-! the reference's pairs -/
def rPr (L : List Nat) (μ : zM) : Prop := μ 51 29 = (L.length : Int) ∧ L.length ≤ 200 ∧ ∀ k p : Nat, L[k]? = some p → μ 74 k = ((p / 256 : Nat) : Int) ∧ μ 75 k = ((p % 256 : Nat) : Int)
theorem rPr_congr {L : List Nat} {μ μ' : zM} (h : rPr L μ) (h1 : μ' 51 29 = μ 51 29) (h2 : μ' 74 = μ 74) (h3 : μ' 75 = μ 75) : rPr L μ' := by
  unfold rPr
  rw [h1, h2, h3]
  exact h
theorem rPr_add {L : List Nat} {μ : zM} {x y : Nat} (h : rPr L μ) (hl : L.length < 200) (hy : y < 256) : rPr (L ++ [256 * x + y]) (zup (zup (zup μ 74 L.length (x : Int)) 75 L.length (y : Int)) 51 29 ((L.length + 1 : Nat) : Int)) := by
  have m74 : ∀ z, zup (zup (zup μ 74 L.length (x : Int)) 75 L.length (y : Int)) 51 29 ((L.length + 1 : Nat) : Int) 74 z = if z = L.length then (x : Int) else μ 74 z := fun z => by rw [zup_ne _ _ _ (by decide), zup_ne _ _ _ (by decide), zup_at]; simp
  have m75 : ∀ z, zup (zup (zup μ 74 L.length (x : Int)) 75 L.length (y : Int)) 51 29 ((L.length + 1 : Nat) : Int) 75 z = if z = L.length then (y : Int) else μ 75 z := fun z => by rw [zup_ne _ _ _ (by decide), zup_at, zup_ne _ _ _ (by decide)]; simp
  refine ⟨by rw [zup_at]; simp, by simp; omega, fun k p hk => ?_⟩
  rw [m74, m75]
  by_cases hkl : k < L.length
  · rw [List.getElem?_append_left hkl] at hk
    rw [if_neg (by omega), if_neg (by omega)]
    exact h.2.2 k p hk
  · have hk1 := (List.getElem?_eq_some_iff.mp hk).1
    simp only [List.length_append, List.length_cons, List.length_nil] at hk1
    have : k = L.length := by omega
    subst this
    simp only [List.getElem?_concat_length, Option.some.injEq] at hk
    subst hk
    rw [if_pos rfl, if_pos rfl]
    exact ⟨by omega, by omega⟩
def bP (L : List Nat) (N : Nat) (μ : zM) : Prop := L.length + cnt (fun k => decide (μ 71 k = -1)) N = N ∧ (∀ x, x < N → x ∉ L → μ 71 x = -1) ∧ ∀ j x : Nat, L[j]? = some x → x < N ∧ μ 72 j = (x : Int) ∧ μ 71 x = 0
theorem bP_r {L : List Nat} {N : Nat} {μ : zM} (h : bP L N μ) {x : Nat} (hx : x < N) : (x ∈ L ∧ μ 71 x = 0) ∨ (x ∉ L ∧ μ 71 x = -1) := by
  by_cases hm : x ∈ L
  · obtain ⟨j, hj⟩ := List.getElem?_of_mem hm
    exact Or.inl ⟨hm, (h.2.2 j x hj).2.2⟩
  · exact Or.inr ⟨hm, h.2.1 x hx hm⟩
theorem bP_room {L : List Nat} {N y : Nat} {μ : zM} (h : bP L N μ) (hy : y < N) (hm : y ∉ L) : L.length + 1 ≤ N := by
  have h1 := cnt_less (f := fun _ => false) (g := fun k => decide (μ 71 k = -1)) N (fun k _ h => by cases h) ⟨y, hy, rfl, by simp [h.2.1 y hy hm]⟩
  have := h.1
  omega
theorem bP_new {L : List Nat} {N y : Nat} {μ : zM} (h : bP L N μ) (hy : y < N) (hm : y ∉ L) : bP (L ++ [y]) N (zup (zup μ 71 y 0) 72 L.length (y : Int)) := by
  have m71 : ∀ z, zup (zup μ 71 y 0) 72 L.length (y : Int) 71 z = if z = y then 0 else μ 71 z := fun z => by rw [zup_ne _ _ _ (by decide), zup_at]; simp
  have m72 : ∀ z, zup (zup μ 71 y 0) 72 L.length (y : Int) 72 z = if z = L.length then (y : Int) else μ 72 z := fun z => by rw [zup_at, zup_ne _ _ _ (by decide)]; simp
  generalize zup (zup μ 71 y 0) 72 L.length (y : Int) = μ' at m71 m72
  refine ⟨?_, fun z hz hzn => ?_, fun j z hj => ?_⟩
  · have := cnt_drop (f := fun k => decide (μ 71 k = -1)) (g := fun k => decide (μ' 71 k = -1)) (k0 := y) (by simp [h.2.1 y hy hm]) (by rw [m71, if_pos rfl]; simp) (fun z hz => by rw [m71, if_neg hz]) N hy
    have := h.1
    simp only [List.length_append, List.length_cons, List.length_nil]
    omega
  · rw [m71, if_neg (fun h9 => hzn (by rw [h9]; exact List.mem_append_right _ List.mem_cons_self))]
    exact h.2.1 z hz (fun h9 => hzn (List.mem_append_left _ h9))
  · by_cases hjo : j < L.length
    · rw [List.getElem?_append_left hjo] at hj
      obtain ⟨a1, a2, a3⟩ := h.2.2 j z hj
      have hzy : z ≠ y := fun h9 => hm (h9 ▸ List.mem_of_getElem? hj)
      exact ⟨a1, by rw [m72, if_neg (by omega)]; exact a2, by rw [m71, if_neg hzy]; exact a3⟩
    · have hjl := (List.getElem?_eq_some_iff.mp hj).1
      simp only [List.length_append, List.length_cons, List.length_nil] at hjl
      have hje : j = L.length := by omega
      subst hje
      simp at hj
      subst hj
      exact ⟨hy, by rw [m72, if_pos rfl], by rw [m71, if_pos rfl]⟩
theorem bP_0 {N f : Nat} {μ : zM} (hf : f < N) (h0 : ∀ z, z < N → μ 71 z = -1) : bP [f] N (zup (zup μ 71 f 0) 72 0 (f : Int)) := by
  have h : bP [] N μ := by
    refine ⟨?_, fun z hz _ => h0 z hz, fun j x hj => by simp at hj⟩
    rw [cnt_all (f := fun k => decide (μ 71 k = -1)) N (fun k hk => by simp [h0 k hk])]
    simp
  exact bP_new h hf (by simp)
/-- from a node all that is found is reached: no more is asked of it than that -/
theorem bReach {tg : Nat → Nat → Nat} {G : Nat → Bool} {f i x : Nat} (hl : (gAt (nxT tg) f (12 * i)).1.length ≤ 200) (hx : (gAt (nxT tg) f (12 * i)).1[i]? = some x) (hG : G x = true) : ∃ d, rch tg (fun _ => true) G d f = true := by
  have e1 : nxT tg = nxK tg (fun _ => true) := by
    rw [nxK_T]
    congr 1
    funext k e
    by_cases h : tg k e = 0
    · rw [ktg_0 h, h]
    · rw [ktg_t h rfl]
  rw [e1] at hl hx
  exact ⟨_, bSound (G := G) (f := f) rfl hl i x hx 0 (by simp [rch, hG])⟩
theorem bReach_no {tg : Nat → Nat → Nat} {G : Nat → Bool} {f i : Nat} (hl : (gAt (nxT tg) f (12 * i)).1.length ≤ 200) (hi : ∀ j, j < i → j < (gAt (nxT tg) f (12 * j)).1.length) (hG : ∀ j x : Nat, j < i → (gAt (nxT tg) f (12 * i)).1[j]? = some x → G x = false) (hn : (gAt (nxT tg) f (12 * i)).1.length ≤ i) : ∀ d, rch tg (fun _ => true) G d f = false := by
  have e1 : nxT tg = nxK tg (fun _ => true) := by
    rw [nxK_T]
    congr 1
    funext k e
    by_cases h : tg k e = 0
    · rw [ktg_0 h, h]
    · rw [ktg_t h rfl]
  rw [e1] at hl hi hG hn
  rcases bHome_no hl hi hG hn with ⟨_, h⟩ | ⟨d, h, _⟩
  · exact h
  · omega
theorem nxT_none {T : Nat → Nat → Nat} {f i e x : Nat} (he : e < 12) (hx : (gAt (nxT T) f (12 * i + e)).1[i]? = some x) (h0 : T x e = 0) : (gAt (nxT T) f (12 * i + (e + 1))).1 = (gAt (nxT T) f (12 * i + e)).1 := by
  rw [gAt_next _ _ he, gStep_none hx (by unfold nxT; rw [if_pos h0])]
theorem nxT_old {T : Nat → Nat → Nat} {f i e x : Nat} (he : e < 12) (hx : (gAt (nxT T) f (12 * i + e)).1[i]? = some x) (h0 : T x e ≠ 0) (hm : T x e - 1 ∈ (gAt (nxT T) f (12 * i + e)).1) : (gAt (nxT T) f (12 * i + (e + 1))).1 = (gAt (nxT T) f (12 * i + e)).1 := by
  have hn : nxT T x e = some (T x e - 1) := by unfold nxT; rw [if_neg h0]
  rw [gAt_next _ _ he]
  simp only [gStep, hx, hn, if_pos hm]
theorem nxT_new {T : Nat → Nat → Nat} {f i e x : Nat} (he : e < 12) (hx : (gAt (nxT T) f (12 * i + e)).1[i]? = some x) (h0 : T x e ≠ 0) (hm : T x e - 1 ∉ (gAt (nxT T) f (12 * i + e)).1) : (gAt (nxT T) f (12 * i + (e + 1))).1 = (gAt (nxT T) f (12 * i + e)).1 ++ [T x e - 1] := by
  have hn : nxT T x e = some (T x e - 1) := by unfold nxT; rw [if_neg h0]
  rw [gAt_next _ _ he]
  simp only [gStep, hx, hn, if_neg hm]
theorem nxQ_none {f1 f2 : Nat → Nat → Nat} {p e : Nat} (h : f1 (p / 256) e = 0 ∨ f2 (p % 256) e = 0) : nxQ f1 f2 p e = none := by
  unfold nxQ
  rw [if_neg (by omega)]
theorem nxQ_some {f1 f2 : Nat → Nat → Nat} {p e : Nat} (h1 : f1 (p / 256) e ≠ 0) (h2 : f2 (p % 256) e ≠ 0) : nxQ f1 f2 p e = some (256 * (f1 (p / 256) e - 1) + (f2 (p % 256) e - 1)) := by
  unfold nxQ
  rw [if_pos ⟨h1, h2⟩]
theorem sMath_K {a : aT} {mem : Nat → Bool} {N : Nat} {K : Nat → Bool} {M : Nat} (h : sMath a mem N K M) : 0 < M ↔ K 0 = true := by
  have h1 := h.2.2.2.2.1
  constructor
  · intro hM
    exact oAt_K (tg := gtg (sg a mem N)) (t := 12 * M) (s := 0) (by rw [h1.1]; exact hM)
  · intro hK
    rcases Nat.eq_zero_or_pos M with h0 | h0
    · subst h0
      have := h1.1
      unfold oAt at this
      rw [if_pos hK] at this
      simp [gAt] at this
    · exact h0
/-- what isThere finds -/
def rThere (a : aT) (x : Nat) (N : Nat) (K : Nat → Bool) : Prop := aReady a (aMem a (some x)) = true ∧ gFin (nxtA a (aMem a (some x))) (cod (aFirst a (aMem a (some x)))) N ∧ (0 < N ∧ N ≤ 200) ∧ gPost N (gtg (rg a x N)) (sU a (rg a x N)) (sC a) (sB a (aMem a (some x)) (rg a x N)) (sG a (aMem a (some x)) (rg a x N)) K ∧ gAbove N (gtg (rg a x N)) (sU a (rg a x N)) (sC a) (sB a (aMem a (some x)) (rg a x N)) (sG a (aMem a (some x)) (rg a x N)) K
def rNone (a : aT) (x : Nat) : Prop := aReady a (aMem a (some x)) = false ∨ (aReady a (aMem a (some x)) = true ∧ gMany (nxtA a (aMem a (some x))) (cod (aFirst a (aMem a (some x))))) ∨ ∃ N K, rThere a x N K ∧ K 0 = false
theorem there_K {a : aT} {x N N' M : Nat} {K K' : Nat → Bool} (h : rThere a x N K) (h' : sMath a (aMem a (some x)) N' K' M) : N = N' ∧ ∀ k, k < N → K' k = K k := by
  have := gFin_unique h.2.1 h'.1
  subst this
  exact ⟨rfl, gPA_eq h.2.2.2.1 h.2.2.2.2 h'.2.2.1 h'.2.2.2.1⟩
theorem none_M {a : aT} {x N M : Nat} {K : Nat → Bool} (h : rNone a x) (hr : aReady a (aMem a (some x)) = true) (h' : sMath a (aMem a (some x)) N K M) (hM : 0 < M) : False := by
  rcases h with h | ⟨_, h⟩ | ⟨N', K', h1, h2⟩
  · rw [hr] at h; cases h
  · exact gFin_notMany h'.1 h'.2.1.2 h
  · obtain ⟨h3, h4⟩ := there_K h1 h'
    have h5 := h4 0 h1.2.2.1.1
    rw [(sMath_K h').mp hM, h2] at h5
    cases h5
theorem there_N {a : aT} {x N : Nat} {K : Nat → Bool} (h : rThere a x N K) (hK : K 0 = true) (hs : sNot a x) : False := by
  rcases hs with h1 | ⟨_, h1⟩ | ⟨N', K', h1, h2⟩
  · rw [h.1] at h1; cases h1
  · exact gFin_notMany h.2.1 h.2.2.1.2 h1
  · obtain ⟨h3, h4⟩ := there_K h h2
    have h5 := h4 0 h.2.2.1.1
    have h6 : K' 0 = true := by rw [h5, hK]
    have := (sMath_K h2).mpr h6
    omega
theorem conf_1 {a : aT} {i j : Nat} {r : Int} (h : rConf a i j r) (hn : rNone a i) : r = -1 := by
  rcases h with ⟨h1, _⟩ | ⟨h1, _⟩ | ⟨N1, K1, M1, N2, K2, M2, h1, h2, h3, _⟩
  · exact h1
  · exact h1
  · exact (none_M hn h2 h1.2.2.2.1 h1.2.2.2.2.2.1).elim
theorem conf_2 {a : aT} {i j : Nat} {r : Int} (h : rConf a i j r) (hn : rNone a j) : r = -1 := by
  rcases h with ⟨h1, _⟩ | ⟨h1, _⟩ | ⟨N1, K1, M1, N2, K2, M2, h1, h2, h3, _⟩
  · exact h1
  · exact h1
  · exact (none_M hn h3 h1.2.2.2.2.1 h1.2.2.2.2.2.2).elim
def rConf3 (a : aT) (i j N1 : Nat) (K1 : Nat → Bool) (N2 : Nat) (K2 : Nat → Bool) (r : Int) : Prop := (r = -1 ∧ gMany (pq a i j N1 K1 N2 K2) 0) ∨ ∃ n, gFin (pq a i j N1 K1 N2 K2) 0 n ∧ n ≤ 200 ∧ ((r = 1 ∧ ∃ k, k < n ∧ ∀ d, rch (gtg (gAt (pq a i j N1 K1 N2 K2) 0 (12 * n))) (fun _ => true) (pG a i j N1 N2 (gAt (pq a i j N1 K1 N2 K2) 0 (12 * n)).1) d k = false) ∨ (r = 0 ∧ ∀ k, k < n → ∃ d, rch (gtg (gAt (pq a i j N1 K1 N2 K2) 0 (12 * n))) (fun _ => true) (pG a i j N1 N2 (gAt (pq a i j N1 K1 N2 K2) 0 (12 * n)).1) d k = true))
theorem conf_3 {a : aT} {i j N1 N2 : Nat} {K1 K2 : Nat → Bool} {r : Int} (h : rConf a i j r) (h1 : rThere a i N1 K1) (hK1 : K1 0 = true) (h2 : rThere a j N2 K2) (hK2 : K2 0 = true) : ∃ K1' M1 K2' M2, pH a i j N1 K1' M1 N2 K2' M2 ∧ (∀ k, k < N1 → K1' k = K1 k) ∧ (∀ k, k < N2 → K2' k = K2 k) ∧ rConf3 a i j N1 K1' N2 K2' r := by
  rcases h with ⟨_, hs⟩ | ⟨_, hs, _⟩ | ⟨N1', K1', M1, N2', K2', M2, h3, h4, h5, h6⟩
  · exact (there_N h1 hK1 hs).elim
  · exact (there_N h2 hK2 hs).elim
  · obtain ⟨e1, e2⟩ := there_K h1 h3.2.2.2.1
    obtain ⟨e3, e4⟩ := there_K h2 h3.2.2.2.2.1
    subst e1; subst e3
    exact ⟨K1', M1, K2', M2, h3, e2, e4, h6⟩
theorem conf3_m {a : aT} {i j N1 N2 : Nat} {K1 K2 : Nat → Bool} {r : Int} (h : rConf3 a i j N1 K1 N2 K2 r) (hm : gMany (pq a i j N1 K1 N2 K2) 0) : r = -1 := by
  rcases h with h | ⟨n, h1, h2, _⟩
  · exact h.1
  · exact (gFin_notMany h1 h2 hm).elim
theorem conf3_f {a : aT} {i j N1 N2 n : Nat} {K1 K2 : Nat → Bool} {r : Int} (h : rConf3 a i j N1 K1 N2 K2 r) (hF : gFin (pq a i j N1 K1 N2 K2) 0 n) (hn : n ≤ 200) : (r = 1 ∧ ∃ k, k < n ∧ ∀ d, rch (gtg (gAt (pq a i j N1 K1 N2 K2) 0 (12 * n))) (fun _ => true) (pG a i j N1 N2 (gAt (pq a i j N1 K1 N2 K2) 0 (12 * n)).1) d k = false) ∨ (r = 0 ∧ ∀ k, k < n → ∃ d, rch (gtg (gAt (pq a i j N1 K1 N2 K2) 0 (12 * n))) (fun _ => true) (pG a i j N1 N2 (gAt (pq a i j N1 K1 N2 K2) 0 (12 * n)).1) d k = true) := by
  rcases h with h | ⟨n', h1, h2, h3⟩
  · exact (gFin_notMany hF hn h.2).elim
  · have := gFin_unique hF h1
    subst this
    exact h3
