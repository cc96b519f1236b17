/-! the reference's taking out, as mathematics -/
def rF2 (w : Nat) (μ μ' : zM) : Prop := ∀ q x, ¬ ((q = 65 ∨ q = 66) ∧ 200 * w ≤ x ∧ x < 200 * w + 200) → μ' q x = μ q x
theorem rF2_rf (w : Nat) (μ : zM) : rF2 w μ μ := fun _ _ _ => rfl
theorem rF2_tr {w : Nat} {μ μ1 μ2 : zM} (h : rF2 w μ μ1) (h' : rF2 w μ1 μ2) : rF2 w μ μ2 := fun q x hi => (h' q x hi).trans (h q x hi)
theorem rF2_up {w : Nat} {μ μ1 : zM} {p k : Nat} {v : Int} (h : rF2 w μ μ1) (hp : p = 65 ∨ p = 66) (hk : k < 200) : rF2 w μ (zup μ1 p (200 * w + k) v) := by
  intro q x hq
  rw [zup_at, if_neg (by omega)]
  exact h q x hq
theorem rF2_fr {w : Nat} {μ μ' : zM} (h : rF2 w μ μ') : rFr w μ μ' := fun q x hi => h q x (fun h9 => hi (by unfold rIn; omega))
def rT (N : Nat) (tg : Nat → Nat → Nat) (U : Nat → Nat → Bool) (C G : Nat → Bool) (w : Nat) (μ : zM) : Prop := μ 60 w = (N : Int) ∧ N ≤ 200 ∧ ∀ k, k < N → μ 64 (200 * w + k) = zB (G k) ∧ ∀ e, e < 12 → (μ 62 (12 * (200 * w + k) + e) = (tg k e : Int) - 1 ∧ tg k e ≤ N) ∧ μ 63 (12 * (200 * w + k) + e) = zB (U k e) ∧ (U k e = true → μ 59 e = zB (C e))
theorem rT_fr {N : Nat} {tg : Nat → Nat → Nat} {U : Nat → Nat → Bool} {C G : Nat → Bool} {w : Nat} {μ μ' : zM} (h : rT N tg U C G w μ) (hf : rF2 w μ μ') : rT N tg U C G w μ' := by
  obtain ⟨h1, h2, h3⟩ := h
  refine ⟨by rw [hf _ _ (by omega)]; exact h1, h2, fun k hk => ⟨by rw [hf _ _ (by omega)]; exact (h3 k hk).1, fun e he => ?_⟩⟩
  rw [hf _ _ (by omega), hf _ _ (by omega), hf _ _ (by omega)]
  exact (h3 k hk).2 e he
def rRc (w N : Nat) (X : Nat → Bool) (μ : zM) : Prop := ∀ k, k < N → μ 66 (200 * w + k) = zB (X k)
def bup (X : Nat → Bool) (k : Nat) (b : Bool) (j : Nat) : Bool := if j = k then b else X j
theorem rRc_up {w N k : Nat} {X : Nat → Bool} {μ : zM} (h : rRc w N X μ) (b : Bool) : rRc w N (bup X k b) (zup μ 66 (200 * w + k) (zB b)) := by
  intro j hj
  rw [zup_at]
  unfold bup
  by_cases hjk : j = k
  · rw [if_pos ⟨rfl, by omega⟩, if_pos hjk]
  · rw [if_neg (by omega), if_neg hjk]
    exact h j hj
theorem rBd_up {w N k : Nat} {K : Nat → Bool} {μ : zM} (h : rBd w N K μ) : rBd w N (bup K k false) (zup μ 65 (200 * w + k) 1) := by
  intro j hj
  rw [zup_at]
  unfold bup
  by_cases hjk : j = k
  · rw [if_pos ⟨rfl, by omega⟩, if_pos hjk]; rfl
  · rw [if_neg (by omega), if_neg hjk]
    exact h j hj
theorem rBd_66 {w N x : Nat} {K : Nat → Bool} {μ : zM} {v : Int} (h : rBd w N K μ) : rBd w N K (zup μ 66 x v) := by
  intro j hj
  rw [zup_ne _ _ _ (by decide)]
  exact h j hj
theorem rRc_65 {w N x : Nat} {X : Nat → Bool} {μ : zM} {v : Int} (h : rRc w N X μ) : rRc w N X (zup μ 65 x v) := by
  intro j hj
  rw [zup_ne _ _ _ (by decide)]
  exact h j hj
def nX (tg : Nat → Nat → Nat) (K X : Nat → Bool) (k n : Nat) : Bool := X k || (K k && (List.range n).any (fun e => decide (tg k e ≠ 0) && X (tg k e - 1)))
theorem nX_s (tg : Nat → Nat → Nat) (K X : Nat → Bool) (k n : Nat) : nX tg K X k (n + 1) = (nX tg K X k n || (K k && (decide (tg k n ≠ 0) && X (tg k n - 1)))) := by
  unfold nX
  rw [rng_any]
  cases X k <;> cases K k <;> simp
theorem nX_0 (tg : Nat → Nat → Nat) (K X : Nat → Bool) (k : Nat) : nX tg K X k 0 = X k := by simp [nX]
theorem nX_n {tg : Nat → Nat → Nat} {K X : Nat → Bool} {k n : Nat} (hK : K k = false) : nX tg K X k n = X k := by simp [nX, hK]
def rGo (N : Nat) (tg : Nat → Nat → Nat) (K G X : Nat → Bool) : Prop := (∀ k, k < N → X k = true → ∃ d, rch tg K G d k = true) ∧ ∀ k, k < N → (K k && G k) = true → X k = true
theorem rGo_0 (N : Nat) (tg : Nat → Nat → Nat) (K G : Nat → Bool) : rGo N tg K G (fun k => K k && G k) := ⟨fun k _ h => ⟨0, h⟩, fun k _ h => h⟩
theorem rGo_step {N k : Nat} {tg : Nat → Nat → Nat} {K G X : Nat → Bool} (h : rGo N tg K G X) (ht : ∀ e, e < 12 → tg k e ≤ N) (hk : k < N) : rGo N tg K G (bup X k (nX tg K X k 12)) := by
  refine ⟨fun j hj hx => ?_, fun j hj hx => ?_⟩
  · unfold bup at hx
    by_cases hjk : j = k
    · subst hjk
      rw [if_pos rfl] at hx
      unfold nX at hx
      rcases Bool.or_eq_true _ _ ▸ hx with h1 | h1
      · exact h.1 j hj h1
      · rw [Bool.and_eq_true] at h1
        obtain ⟨e, he, h2⟩ := any_iff.mp h1.2
        rw [Bool.and_eq_true] at h2
        have h0 : tg j e ≠ 0 := by simpa using h2.1
        have := ht e he
        obtain ⟨d, hd⟩ := h.1 (tg j e - 1) (by omega) h2.2
        exact ⟨d + 1, rch_go h1.1 he (by omega) hd⟩
    · rw [if_neg hjk] at hx
      exact h.1 j hj hx
  · have h1 := h.2 j hj hx
    unfold bup
    by_cases hjk : j = k
    · subst hjk
      rw [if_pos rfl]
      simp [nX, h1]
    · rw [if_neg hjk]
      exact h1
theorem rGo_end {N : Nat} {tg : Nat → Nat → Nat} {K G X : Nat → Bool} (h : rGo N tg K G X) (ht : ∀ k e, k < N → e < 12 → tg k e ≤ N) (hc : ∀ k, k < N → nX tg K X k 12 = X k) : ∀ d k, k < N → rch tg K G d k = true → X k = true
  | 0, k, hk, hr => h.2 k hk hr
  | d + 1, k, hk, hr => by
    simp only [rch] at hr
    rcases Bool.or_eq_true _ _ ▸ hr with h1 | h1
    · exact rGo_end h ht hc d k hk h1
    · rw [Bool.and_eq_true] at h1
      obtain ⟨e, he, h2⟩ := any_iff.mp h1.2
      rw [Bool.and_eq_true] at h2
      have h0 : tg k e ≠ 0 := by simpa using h2.1
      have := ht k e hk he
      have h3 := rGo_end h ht hc d (tg k e - 1) (by omega) h2.2
      rw [← hc k hk]
      unfold nX
      rw [h1.1, Bool.true_and, any_iff.mpr ⟨e, he, by simp [h0, h3]⟩, Bool.or_true]
def rPs (N : Nat) (tg : Nat → Nat → Nat) (K X X' : Nat → Bool) (bm : Bool) (m : Nat) : Prop := (∀ j, j < N → X j = true → X' j = true) ∧ ((bm = false ∧ X' = X ∧ ∀ k, k < m → nX tg K X k 12 = X k) ∨ (bm = true ∧ ∃ j, j < N ∧ X j = false ∧ X' j = true))
theorem rPs_0 (N : Nat) (tg : Nat → Nat → Nat) (K X : Nat → Bool) : rPs N tg K X X false 0 := ⟨fun _ _ h => h, Or.inl ⟨rfl, rfl, fun k hk => absurd hk (by omega)⟩⟩
theorem bup_same {X : Nat → Bool} {k : Nat} {b : Bool} (h : b = X k) : bup X k b = X := by
  funext j
  unfold bup
  split
  · rename_i hj; rw [hj, h]
  · rfl
theorem rPs_step {N k : Nat} {tg : Nat → Nat → Nat} {K X X' : Nat → Bool} {bm : Bool} (h : rPs N tg K X X' bm k) (hk : k < N) : rPs N tg K X (bup X' k (nX tg K X' k 12)) (bm || (nX tg K X' k 12 != X' k)) (k + 1) := by
  obtain ⟨h1, h2⟩ := h
  have hup : ∀ j, X' j = true → bup X' k (nX tg K X' k 12) j = true := by
    intro j hj
    unfold bup
    split
    · rename_i hjk
      subst hjk
      simp [nX, hj]
    · exact hj
  refine ⟨fun j hj hx => hup j (h1 j hj hx), ?_⟩
  rcases h2 with ⟨h3, h4, h5⟩ | ⟨h3, j, h4, h5, h6⟩
  · subst h3; subst h4
    by_cases he : nX tg K X' k 12 = X' k
    · refine Or.inl ⟨by simp [he], bup_same he, fun j hj => ?_⟩
      by_cases hjk : j = k
      · subst hjk; exact he
      · exact h5 j (by omega)
    · have hf : X' k = false := by
        cases hx : X' k
        · rfl
        · exact absurd (by simp [nX, hx]) he
      have ht : nX tg K X' k 12 = true := by
        cases hx : nX tg K X' k 12
        · rw [hx, hf] at he; exact absurd rfl he
        · rfl
      exact Or.inr ⟨by rw [ht, hf]; rfl, k, hk, hf, by rw [ht]; unfold bup; rw [if_pos rfl]⟩
  · exact Or.inr ⟨by rw [h3]; rfl, j, h4, h5, hup j h6⟩
theorem rPs_end {N : Nat} {tg : Nat → Nat → Nat} {K X X' : Nat → Bool} {bm : Bool} (h : rPs N tg K X X' bm N) : 2 * (N - cnt X' N) + (if bm = true then 1 else 0) < 2 * (N - cnt X N) + 1 ∧ (bm = false → ∀ k, k < N → nX tg K X' k 12 = X' k) := by
  obtain ⟨h1, h2⟩ := h
  rcases h2 with ⟨h3, h4, h5⟩ | ⟨h3, j, h4, h5, h6⟩
  · subst h3; subst h4
    refine ⟨?_, fun _ => h5⟩
    rw [if_neg (by decide)]
    omega
  · subst h3
    have h7 := cnt_less N h1 ⟨j, h4, h5, h6⟩
    have h8 := cnt_le X' N
    refine ⟨?_, fun h => by cases h⟩
    rw [if_pos rfl]
    omega
theorem tk_end {N : Nat} {tg : Nat → Nat → Nat} {U : Nat → Nat → Bool} {C B G K K' : Nat → Bool} {r : Int} (hs : ∀ k, k < N → K' k = true → K k = true) (h : (r = 0 ∧ gPost N tg U C B G K') ∨ (r = 1 ∧ ∃ j, j < N ∧ K' j = false ∧ K j = true)) : ∃ bm : Bool, r = zB bm ∧ 2 * cnt K' N + (if bm = true then 1 else 0) < 2 * cnt K N + 1 ∧ (bm = false → gPost N tg U C B G K') := by
  rcases h with ⟨h1, h2⟩ | ⟨h1, h2⟩
  · have := cnt_mono N hs
    exact ⟨false, h1, by rw [if_neg (by decide)]; omega, fun _ => h2⟩
  · have := cnt_less N hs h2
    exact ⟨true, h1, by rw [if_pos rfl]; omega, fun h => by cases h⟩
def dX (tg : Nat → Nat → Nat) (U : Nat → Nat → Bool) (C K X : Nat → Bool) (k n : Nat) : Bool := !X k || (List.range n).any (fun e => (U k e && !C e) && decide (ktg tg K k e = 0))
theorem dX_s (tg : Nat → Nat → Nat) (U : Nat → Nat → Bool) (C K X : Nat → Bool) (k n : Nat) : dX tg U C K X k (n + 1) = (dX tg U C K X k n || ((U k n && !C n) && decide (ktg tg K k n = 0))) := by
  unfold dX
  rw [rng_any, Bool.or_assoc]
theorem ktg_0 {tg : Nat → Nat → Nat} {K : Nat → Bool} {k e : Nat} (h : tg k e = 0) : ktg tg K k e = 0 := by
  unfold ktg
  rw [if_neg (fun h9 => h9.1 h)]
theorem ktg_K {tg : Nat → Nat → Nat} {K : Nat → Bool} {k e : Nat} (h : K (tg k e - 1) = false) : ktg tg K k e = 0 := by
  unfold ktg
  rw [if_neg (fun h9 => by rw [h] at h9; cases h9.2)]
theorem ktg_t {tg : Nat → Nat → Nat} {K : Nat → Bool} {k e : Nat} (h0 : tg k e ≠ 0) (h : K (tg k e - 1) = true) : ktg tg K k e = tg k e := by
  unfold ktg
  rw [if_pos ⟨h0, h⟩]
def rDr (N : Nat) (tg : Nat → Nat → Nat) (U : Nat → Nat → Bool) (C K X K' : Nat → Bool) (bm : Bool) (m : Nat) : Prop := (∀ j, j < N → K' j = true → K j = true) ∧ ((bm = false ∧ K' = K ∧ ∀ j, j < m → K j = true → X j = true ∧ unr tg U C K j = false) ∨ (bm = true ∧ ∃ j, j < N ∧ K' j = false ∧ K j = true))
theorem rDr_0 (N : Nat) (tg : Nat → Nat → Nat) (U : Nat → Nat → Bool) (C K X : Nat → Bool) : rDr N tg U C K X K false 0 := ⟨fun _ _ h => h, Or.inl ⟨rfl, rfl, fun j hj => absurd hj (by omega)⟩⟩
theorem rDr_stay {N k : Nat} {tg : Nat → Nat → Nat} {U : Nat → Nat → Bool} {C K X K' : Nat → Bool} {bm : Bool} (h : rDr N tg U C K X K' bm k) (hs : K' k = true → dX tg U C K' X k 12 = false) : rDr N tg U C K X K' bm (k + 1) := by
  obtain ⟨h1, h2⟩ := h
  refine ⟨h1, ?_⟩
  rcases h2 with ⟨h3, h4, h5⟩ | h3
  · refine Or.inl ⟨h3, h4, fun j hj hK => ?_⟩
    by_cases hjk : j = k
    · subst hjk
      subst h4
      have := hs hK
      unfold dX at this
      rw [Bool.or_eq_false_iff] at this
      exact ⟨by simpa using this.1, this.2⟩
    · exact h5 j (by omega) hK
  · exact Or.inr h3
theorem rDr_drop {N k : Nat} {tg : Nat → Nat → Nat} {U : Nat → Nat → Bool} {C K X K' : Nat → Bool} {bm : Bool} (h : rDr N tg U C K X K' bm k) (hk : k < N) (hK : K' k = true) : rDr N tg U C K X (bup K' k false) true (k + 1) := by
  obtain ⟨h1, h2⟩ := h
  refine ⟨fun j hj hx => h1 j hj ?_, Or.inr ⟨rfl, k, hk, by unfold bup; rw [if_pos rfl], h1 k hk hK⟩⟩
  unfold bup at hx
  split at hx
  · cases hx
  · exact hx
theorem rAb_drop {N k : Nat} {tg : Nat → Nat → Nat} {U : Nat → Nat → Bool} {C B G K X K' : Nat → Bool} (hA : gAbove N tg U C B G K') (hA0 : gAbove N tg U C B G K) (hX : ∀ d k, k < N → rch tg K G d k = true → X k = true) (ht : ∀ k e, k < N → e < 12 → tg k e ≤ N) (hk : k < N) (hd : dX tg U C K' X k 12 = true) : gAbove N tg U C B G (bup K' k false) := by
  refine gAbove_cut hA (fun j hj hx => ?_) (fun Z hZ j hj hz hK => ?_)
  · unfold bup at hx
    split at hx
    · cases hx
    · exact hx
  · unfold bup
    split
    · rename_i hjk
      subst hjk
      exfalso
      unfold dX at hd
      rcases Bool.or_eq_true _ _ ▸ hd with h1 | h1
      · obtain ⟨d, hd⟩ := hZ.2.2 j hj hz
        have := hX d j hj (rch_mono (hA0.2 Z hZ) ht d j hj hd)
        rw [this] at h1
        cases h1
      · have := unr_out hZ (hA.2 Z hZ) ht hj h1
        rw [hz] at this
        cases this
    · exact hK
theorem rDr_end {N : Nat} {tg : Nat → Nat → Nat} {U : Nat → Nat → Bool} {C B G K X K' : Nat → Bool} {bm : Bool} (h : rDr N tg U C K X K' bm N) (hA : gAbove N tg U C B G K') (hX : ∀ k, k < N → X k = true → ∃ d, rch tg K G d k = true) : (bm = false ∧ gPost N tg U C B G K') ∨ (bm = true ∧ ∃ j, j < N ∧ K' j = false ∧ K j = true) := by
  obtain ⟨h1, h2⟩ := h
  rcases h2 with ⟨h3, h4, h5⟩ | h3
  · subst h4
    exact Or.inl ⟨h3, hA.1, fun k hk hz e he hu hc => unr_no (h5 k hk hz).2 he hu hc, fun k hk hz => hX k hk (h5 k hk hz).1⟩
  · exact Or.inr h3
theorem zB_e {a b : Bool} (h : zB a = zB b) : (a != b) = false := by cases a <;> cases b <;> simp_all [zB]
theorem zB_n {a b : Bool} (h : ¬ zB a = zB b) : (a != b) = true := by cases a <;> cases b <;> simp_all [zB]
theorem gPA_eq {N : Nat} {tg : Nat → Nat → Nat} {U : Nat → Nat → Bool} {C B G K K' : Nat → Bool} (h1 : gPost N tg U C B G K) (h2 : gAbove N tg U C B G K) (h3 : gPost N tg U C B G K') (h4 : gAbove N tg U C B G K') : ∀ k, k < N → K' k = K k := by
  intro k hk
  cases h : K k
  · cases h' : K' k
    · rfl
    · have := h2.2 K' h3 k hk h'
      rw [h] at this
      cases this
  · exact h4.2 K h1 k hk h
def rO (n : Nat) (O : List Nat) (μ : zM) : Prop := μ 51 18 = (O.length : Int) ∧ (∀ k, k < n → k ∉ O → μ 68 k = 0) ∧ (∀ s k : Nat, O[s]? = some k → k < n ∧ μ 68 k = ((s + 1 : Nat) : Int) ∧ μ 67 s = (k : Int)) ∧ O.length + cnt (fun k => decide (μ 68 k = 0)) n = n
theorem rO_congr {n : Nat} {O : List Nat} {μ μ' : zM} (h : rO n O μ) (h0 : μ' 51 18 = μ 51 18) (h1 : μ' 68 = μ 68) (h2 : μ' 67 = μ 67) : rO n O μ' := by
  unfold rO
  rw [h0, h1, h2]
  exact h
theorem rO_add {n : Nat} {O : List Nat} {k : Nat} {μ μ' : zM} (h : rO n O μ) (hk : k < n) (hO : k ∉ O) (h0 : μ' 51 18 = ((O.length + 1 : Nat) : Int)) (h68 : ∀ x, μ' 68 x = if x = k then ((O.length + 1 : Nat) : Int) else μ 68 x) (h67 : ∀ x, μ' 67 x = if x = O.length then (k : Int) else μ 67 x) : rO n (O ++ [k]) μ' := by
  obtain ⟨g1, g2, g3, g4⟩ := h
  refine ⟨by rw [h0]; simp, fun x hx hxn => ?_, fun s x hs => ?_, ?_⟩
  · have h1 : x ∉ O := fun h => hxn (List.mem_append_left _ h)
    have h2 : x ≠ k := fun h => hxn (h ▸ List.mem_append_right _ List.mem_cons_self)
    rw [h68, if_neg (by omega)]
    exact g2 x hx h1
  · by_cases hl : s < O.length
    · rw [List.getElem?_append_left hl] at hs
      have hxk : x ≠ k := fun h => hO (h ▸ List.mem_of_getElem? hs)
      obtain ⟨q1, q2, q3⟩ := g3 s x hs
      exact ⟨q1, by rw [h68, if_neg (by omega)]; exact q2, by rw [h67, if_neg (by omega)]; exact q3⟩
    · have hs1 := (List.getElem?_eq_some_iff.mp hs).1
      simp only [List.length_append, List.length_cons, List.length_nil] at hs1
      have : s = O.length := by omega
      subst this
      simp only [List.getElem?_concat_length, Option.some.injEq] at hs
      subst hs
      exact ⟨hk, by rw [h68, if_pos rfl], by rw [h67, if_pos rfl]⟩
  · have := cnt_drop (f := fun k => decide (μ 68 k = 0)) (g := fun k => decide (μ' 68 k = 0)) (k0 := k) (by simp [g2 k hk hO]) (by rw [h68, if_pos rfl]; simp; omega) (fun x hx => by rw [h68, if_neg (by omega)]) n hk
    simp only [List.length_append, List.length_cons, List.length_nil]
    omega
theorem rO_val {n : Nat} {O : List Nat} {k : Nat} {μ : zM} (h : rO n O μ) (hk : k < n) : (∃ s, O[s]? = some k ∧ μ 68 k = ((s + 1 : Nat) : Int)) ∨ (k ∉ O ∧ μ 68 k = 0) := by
  by_cases hm : k ∈ O
  · obtain ⟨s, hs⟩ := List.getElem?_of_mem hm
    exact Or.inl ⟨s, hs, (h.2.2.1 s k hs).2.1⟩
  · exact Or.inr ⟨hm, h.2.1 k hk hm⟩
theorem rO_room {n : Nat} {O : List Nat} {k : Nat} {μ : zM} (h : rO n O μ) (hk : k < n) (hm : k ∉ O) : O.length + 1 ≤ n := by
  have h1 := cnt_less (f := fun _ => false) (g := fun k => decide (μ 68 k = 0)) n (fun k _ h => by cases h) ⟨k, hk, rfl, by simp [h.2.1 k hk hm]⟩
  have := h.2.2.2
  omega
theorem rO_len {n : Nat} {O : List Nat} {μ : zM} (h : rO n O μ) : O.length ≤ n := by
  have := h.2.2.2
  omega
theorem rO_r {n : Nat} {O : List Nat} {k : Nat} {μ : zM} (h : rO n O μ) (hk : k < n) : 0 ≤ μ 68 k ∧ μ 68 k ≤ n := by
  have hl := rO_len h
  rcases rO_val h hk with ⟨s, h1, h2⟩ | ⟨_, h2⟩
  · have := (List.getElem?_eq_some_iff.mp h1).1
    omega
  · omega
