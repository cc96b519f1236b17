/-! the finished graph by numbers of nodes; ways to marked nodes -/
def gTo (g : gT) (x : Nat) : Nat := match g.2.1.find? (fun q => decide (q.1 = x)) with
  | some q => q.2
  | none => 0
theorem gTo_eq {g : gT} {μ : zM} (h : gRep g μ) {x : Nat} (h1 : 12 ≤ x) (h2 : x < 12 * (g.1.length + 1)) : μ 22 x = (gTo g x : Int) ∧ gTo g x ≤ g.1.length := by
  unfold gTo
  cases hf : g.2.1.find? (fun q => decide (q.1 = x)) with
  | none =>
    have : ∀ q ∈ g.2.1, q.1 ≠ x := by
      intro q hq hx
      have := List.find?_eq_none.mp hf q hq
      simp [hx] at this
    exact ⟨h.2.1.2.1 x h1 h2 this, Nat.zero_le _⟩
  | some q =>
    have hq := List.mem_of_find?_eq_some hf
    have hx := List.find?_some hf
    simp only [decide_eq_true_eq] at hx
    obtain ⟨g1, g2, g3⟩ := h.2.1.1 q hq
    rw [hx] at g3
    exact ⟨g3, g2.2⟩
theorem gTo_mem {g : gT} {μ : zM} (h : gRep g μ) {x t : Nat} : (x, t) ∈ g.2.1 → gTo g x = t := by
  intro hm
  obtain ⟨g1, g2, g3⟩ := h.2.1.1 _ hm
  simp only at g1 g2 g3
  have := (gTo_eq h (x := x) g1.1 g1.2).1
  omega
theorem gTo_mem' {g : gT} {x t : Nat} (ht : gTo g x = t) (h0 : t ≠ 0) : (x, t) ∈ g.2.1 := by
  unfold gTo at ht
  split at ht
  · next q hf =>
    have hq := List.mem_of_find?_eq_some hf
    have hx := List.find?_some hf
    simp only [decide_eq_true_eq] at hx
    rw [← hx, ← ht]
    exact hq
  · exact absurd ht.symm h0
/-- from the node k a marked one is reached over kept ones in at most d steps -/
def rch (tg : Nat → Nat → Nat) (K G : Nat → Bool) : Nat → Nat → Bool
  | 0, k => K k && G k
  | d + 1, k => rch tg K G d k || (K k && (List.range 12).any (fun e => decide (tg k e ≠ 0) && rch tg K G d (tg k e - 1)))
theorem rch_up {tg : Nat → Nat → Nat} {K G : Nat → Bool} {d k : Nat} (h : rch tg K G d k = true) : ∀ s, rch tg K G (d + s) k = true
  | 0 => h
  | s + 1 => by
    show (rch tg K G (d + s) k || _) = true
    rw [rch_up h s, Bool.true_or]
theorem rch_K {tg : Nat → Nat → Nat} {K G : Nat → Bool} : ∀ {d k : Nat}, rch tg K G d k = true → K k = true
  | 0, k, h => by simp only [rch, Bool.and_eq_true] at h; exact h.1
  | d + 1, k, h => by
    simp only [rch, Bool.or_eq_true, Bool.and_eq_true] at h
    rcases h with h | h
    · exact rch_K h
    · exact h.1
theorem rch_go {tg : Nat → Nat → Nat} {K G : Nat → Bool} {d k e u : Nat} (hK : K k = true) (he : e < 12) (ht : tg k e = u + 1) (h : rch tg K G d u = true) : rch tg K G (d + 1) k = true := by
  simp only [rch, Bool.or_eq_true, Bool.and_eq_true]
  refine Or.inr ⟨hK, any_iff.mpr ⟨e, he, ?_⟩⟩
  rw [ht]
  simp [h]
/-- how many of the first n fulfil f -/
def cnt (f : Nat → Bool) : Nat → Nat
  | 0 => 0
  | n + 1 => cnt f n + (if f n = true then 1 else 0)
theorem cnt_le (f : Nat → Bool) : ∀ n, cnt f n ≤ n
  | 0 => Nat.le_refl _
  | n + 1 => by
    have := cnt_le f n
    unfold cnt
    split <;> omega
theorem cnt_congr {f g : Nat → Bool} : ∀ n, (∀ k, k < n → f k = g k) → cnt f n = cnt g n
  | 0, _ => rfl
  | n + 1, h => by
    unfold cnt
    rw [cnt_congr n (fun k hk => h k (by omega)), h n (by omega)]
theorem cnt_drop {f g : Nat → Bool} {k0 : Nat} (hf : f k0 = true) (hg : g k0 = false) (h : ∀ k, k ≠ k0 → f k = g k) : ∀ n, k0 < n → cnt f n = cnt g n + 1
  | 0, hk => absurd hk (by omega)
  | n + 1, hk => by
    by_cases hn : k0 = n
    · subst hn
      simp only [cnt, hf, hg]
      rw [cnt_congr (f := f) (g := g) k0 (fun k hk => h k (by omega))]
      simp
    · simp only [cnt]
      rw [cnt_drop hf hg h n (by omega), h n (fun h => hn h.symm)]
      omega
/-- the labels of a search from the marked nodes backwards; w nodes wait or are done -/
def mP (g : gT) (K G : Nat → Bool) (μ : zM) (w : Nat) : Prop :=
  w + cnt (fun k => decide (μ 20 (k + 1) = -1)) g.1.length = g.1.length ∧
  (∀ j, j < w → ∃ k, k < g.1.length ∧ μ 25 j = ((k + 1 : Nat) : Int) ∧ 0 ≤ μ 20 (k + 1)) ∧
  (∀ k, k < g.1.length → 0 ≤ μ 20 (k + 1) → ∃ j, j < w ∧ μ 25 j = ((k + 1 : Nat) : Int)) ∧
  (∀ k, k < g.1.length → μ 20 (k + 1) = -1 ∨ ∃ d : Nat, d < w ∧ μ 20 (k + 1) = (d : Int) ∧ rch (fun k e => gTo g (12 * (k + 1) + e)) K G d k = true) ∧
  (∀ j j', j ≤ j' → j' < w → μ 20 (μ 25 j).toNat ≤ μ 20 (μ 25 j').toNat) ∧
  (∀ k, k < g.1.length → (K k && G k) = true → μ 20 (k + 1) = 0)
theorem mP_w {g : gT} {K G : Nat → Bool} {μ : zM} {w : Nat} (h : mP g K G μ w) : w ≤ g.1.length := by
  have := h.1
  omega
theorem mP_label {g : gT} {K G : Nat → Bool} {μ : zM} {w p u e d : Nat} (h : mP g K G μ w) (hp : p < g.1.length) (hu : u < g.1.length) (hD : μ 20 (p + 1) = -1) (hK : K p = true) (he : e < 12) (ht : gTo g (12 * (p + 1) + e) = u + 1)
    (hd : μ 20 (u + 1) = (d : Int)) (hb : ∀ k, k < g.1.length → 0 ≤ μ 20 (k + 1) → μ 20 (k + 1) ≤ (d : Int) + 1) :
    mP g K G (zup (zup μ 20 (p + 1) ((d : Int) + 1)) 25 w ((p + 1 : Nat) : Int)) (w + 1) := by
  obtain ⟨h1, h2, h3, h4, h5, h6⟩ := h
  have m20 : ∀ j, zup (zup μ 20 (p + 1) ((d : Int) + 1)) 25 w ((p + 1 : Nat) : Int) 20 j = if j = p + 1 then (d : Int) + 1 else μ 20 j := by
    intro j
    rw [zup_ne _ _ _ (by decide), zup_at]
    simp
  have m25 : ∀ j, zup (zup μ 20 (p + 1) ((d : Int) + 1)) 25 w ((p + 1 : Nat) : Int) 25 j = if j = w then ((p + 1 : Nat) : Int) else μ 25 j := by
    intro j
    rw [zup_at]
    by_cases hj : j = w
    · simp [hj]
    · simp only [hj, and_false, if_false]
      rw [zup_ne _ _ _ (by decide)]
  generalize zup (zup μ 20 (p + 1) ((d : Int) + 1)) 25 w ((p + 1 : Nat) : Int) = μ' at m20 m25
  have hrd : ∃ d' : Nat, d' < w ∧ μ 20 (u + 1) = (d' : Int) ∧ rch (fun k e => gTo g (12 * (k + 1) + e)) K G d' u = true := by
    rcases h4 u hu with h | h
    · omega
    · exact h
  obtain ⟨d', hdw, hd', hr⟩ := hrd
  have hdd : d' = d := by omega
  subst hdd
  refine ⟨?_, fun j hj => ?_, fun k hk hk0 => ?_, fun k hk => ?_, fun j j' hjj hj' => ?_, fun k hk hkg => ?_⟩
  · have := cnt_drop (f := fun k => decide (μ 20 (k + 1) = -1)) (g := fun k => decide (μ' 20 (k + 1) = -1)) (k0 := p) (by simp [hD]) (by rw [m20, if_pos rfl]; simp; omega) (fun k hk => by rw [m20, if_neg (by omega)]) g.1.length hp
    omega
  · by_cases hjw : j = w
    · subst hjw
      exact ⟨p, hp, by rw [m25, if_pos rfl], by rw [m20, if_pos rfl]; omega⟩
    · obtain ⟨k, g1, g2, g3⟩ := h2 j (by omega)
      refine ⟨k, g1, by rw [m25, if_neg hjw]; exact g2, ?_⟩
      rw [m20]
      split
      · omega
      · exact g3
  · by_cases hkp : k = p
    · subst hkp
      exact ⟨w, by omega, by rw [m25, if_pos rfl]⟩
    · rw [m20, if_neg (by omega)] at hk0
      obtain ⟨j, g1, g2⟩ := h3 k hk hk0
      exact ⟨j, by omega, by rw [m25, if_neg (by omega)]; exact g2⟩
  · by_cases hkp : k = p
    · subst hkp
      refine Or.inr ⟨d' + 1, by omega, by rw [m20, if_pos rfl]; omega, rch_go hK he ht hr⟩
    · rw [m20, if_neg (by omega)]
      rcases h4 k hk with h | ⟨x, g1, g2, g3⟩
      · exact Or.inl h
      · exact Or.inr ⟨x, by omega, g2, g3⟩
  · have old : ∀ i, i < w → ∃ k, k < g.1.length ∧ μ' 25 i = ((k + 1 : Nat) : Int) ∧ μ' 20 (k + 1) = μ 20 (k + 1) ∧ 0 ≤ μ 20 (k + 1) := by
      intro i hi
      obtain ⟨k, g1, g2, g3⟩ := h2 i hi
      refine ⟨k, g1, by rw [m25, if_neg (by omega)]; exact g2, ?_, g3⟩
      rw [m20, if_neg]
      intro hkp
      have : k = p := by omega
      subst this
      omega
    by_cases hjw : j' = w
    · subst hjw
      have e1 : μ' 20 (μ' 25 j').toNat = (d' : Int) + 1 := by
        rw [m25, if_pos rfl, Int.toNat_natCast, m20, if_pos rfl]
      rw [e1]
      by_cases hj : j = j'
      · subst hj
        rw [e1]
        exact Int.le_refl _
      · obtain ⟨k, g1, g2, g3, g4⟩ := old j (by omega)
        rw [g2, Int.toNat_natCast, g3]
        exact hb k g1 g4
    · obtain ⟨k, g1, g2, g3, g4⟩ := old j (by omega)
      obtain ⟨k', g1', g2', g3', g4'⟩ := old j' (by omega)
      have := h5 j j' hjj (by omega)
      have q1 : μ 25 j = ((k + 1 : Nat) : Int) := by rw [← g2, m25, if_neg (by omega)]
      have q2 : μ 25 j' = ((k' + 1 : Nat) : Int) := by rw [← g2', m25, if_neg (by omega)]
      rw [q1, q2, Int.toNat_natCast, Int.toNat_natCast] at this
      rw [g2, g2', Int.toNat_natCast, Int.toNat_natCast, g3, g3']
      exact this
  · have := h6 k hk hkg
    rw [m20, if_neg]
    · exact this
    · intro hkp
      have : k = p := by omega
      subst this
      omega
/-- labels and waiting nodes of μ stand in μ1 -/
def mExt (n : Nat) (μ μ1 : zM) (w w1 : Nat) : Prop := (∀ k, k < n → 0 ≤ μ 20 (k + 1) → μ1 20 (k + 1) = μ 20 (k + 1)) ∧ (∀ j, j < w → μ1 25 j = μ 25 j) ∧ w ≤ w1 ∧ ∀ q, q ≠ 20 → q ≠ 25 → μ1 q = μ q
theorem mExt_rf (n : Nat) (μ : zM) (w : Nat) : mExt n μ μ w w := ⟨fun _ _ _ => rfl, fun _ _ => rfl, Nat.le_refl _, fun _ _ _ => rfl⟩
theorem mExt_label {n : Nat} {μ μ1 : zM} {w w1 p : Nat} {v x : Int} (h : mExt n μ μ1 w w1) (hD : μ1 20 (p + 1) = -1) : mExt n μ (zup (zup μ1 20 (p + 1) v) 25 w1 x) w (w1 + 1) := by
  obtain ⟨h1, h2, h3, h4⟩ := h
  refine ⟨fun k hk h0 => ?_, fun j hj => ?_, by omega, fun q q1 q2 => by rw [zup_ne _ _ _ q2, zup_ne _ _ _ q1]; exact h4 q q1 q2⟩
  · have := h1 k hk h0
    rw [zup_ne _ _ _ (by decide), zup_at]
    by_cases hkp : k = p
    · subst hkp
      omega
    · have : ¬ (k + 1 = p + 1) := by omega
      simp only [this, and_false, if_false]
      exact h1 k hk h0
  · rw [zup_at]
    have : ¬ (j = w1) := by omega
    simp only [this, and_false, if_false]
    rw [zup_ne _ _ _ (by decide)]
    exact h2 j hj
/-- how far it is from the node k: v, or -1 -/
def mDist (tg : Nat → Nat → Nat) (K G : Nat → Bool) (k : Nat) (v : Int) : Prop := (v = -1 ∧ ∀ d, rch tg K G d k = false) ∨ ∃ d : Nat, v = (d : Int) ∧ d ≤ 200 ∧ rch tg K G d k = true ∧ ∀ d', d' < d → rch tg K G d' k = false
/-- what measure is left with: all labels are right -/
theorem mP_done {g : gT} {K G : Nat → Bool} {μ : zM} {w : Nat} (h : mP g K G μ w) (hn : g.1.length ≤ 200) (htg : ∀ k e, k < g.1.length → e < 12 → gTo g (12 * (k + 1) + e) ≤ g.1.length)
    (hd : ∀ j, j < w → ∀ p e, p < g.1.length → K p = true → e < 12 → gTo g (12 * (p + 1) + e) = (μ 25 j).toNat → 0 ≤ μ 20 (p + 1) ∧ μ 20 (p + 1) ≤ μ 20 (μ 25 j).toNat + 1) :
    ∀ k, k < g.1.length → mDist (fun k e => gTo g (12 * (k + 1) + e)) K G k (μ 20 (k + 1)) := by
  have comp : ∀ d k, k < g.1.length → rch (fun k e => gTo g (12 * (k + 1) + e)) K G d k = true → 0 ≤ μ 20 (k + 1) ∧ μ 20 (k + 1) ≤ (d : Int) := by
    intro d
    induction d with
    | zero =>
      intro k hk hr
      have := h.2.2.2.2.2 k hk hr
      omega
    | succ d ih =>
      intro k hk hr
      simp only [rch, Bool.or_eq_true] at hr
      rcases hr with hr | hr
      · have := ih k hk hr
        omega
      · rw [Bool.and_eq_true] at hr
        obtain ⟨hK, hr⟩ := hr
        obtain ⟨e, he, hr⟩ := any_iff.mp hr
        simp only [Bool.and_eq_true, decide_eq_true_eq] at hr
        have hle := htg k e hk he
        have hu : gTo g (12 * (k + 1) + e) - 1 < g.1.length := by have := hr.1; omega
        have i1 := ih _ hu hr.2
        obtain ⟨j, hj, hq⟩ := h.2.2.1 _ hu i1.1
        have e1 : (gTo g (12 * (k + 1) + e) - 1 + 1 : Nat) = gTo g (12 * (k + 1) + e) := by have := hr.1; omega
        rw [e1] at hq i1
        have i2 := hd j hj k e hk hK he (by rw [hq, Int.toNat_natCast])
        rw [hq, Int.toNat_natCast] at i2
        omega
  intro k hk
  rcases h.2.2.2.1 k hk with hv | ⟨d, hdw, hv, hr⟩
  · refine Or.inl ⟨hv, fun d => ?_⟩
    cases hr : rch (fun k e => gTo g (12 * (k + 1) + e)) K G d k
    · rfl
    · have := comp d k hk hr
      omega
  · have hw := mP_w h
    refine Or.inr ⟨d, hv, by omega, hr, fun d' hd' => ?_⟩
    cases hr' : rch (fun k e => gTo g (12 * (k + 1) + e)) K G d' k
    · rfl
    · have := comp d' k hk hr'
      omega
theorem gAt_es (nxt : Nat → Nat → Option Nat) (c0 : Nat) : ∀ t, (gAt nxt c0 t).2.1.length ≤ t
  | 0 => by simp [gAt]
  | t + 1 => by
    have ih := gAt_es nxt c0 t
    simp only [gAt]
    unfold gStep
    split
    · omega
    · split
      · omega
      · split <;> simp <;> omega
section ZD
variable {Γ : zG} {cc : ByteArray} {own : String} {nL : Nat} {rt : Option FieldType} {hh : List (Nat × Nat × Nat × Nat)} {R : Room} {k0 s0 : Nat} {Fn : State → Prop} {b : Bool} {n : Nat} {μ : zM} {pc : Nat} {L L' : List (Option zV)} {st : List zV}
/-- a local of which no more is said -/
theorem zU.drop (j : Nat) (h : L.set j none = L') (kk : zU Γ cc own nL rt hh R k0 s0 Fn b n μ pc L' st) : zU Γ cc own nL rt hh R k0 s0 Fn b n μ pc L st := by
  subst h
  refine zU.forget (by simp) (fun i v hi => ?_) kk
  by_cases hij : j = i
  · subst hij
    by_cases hl : j < L.length
    · rw [List.getElem?_set_self hl] at hi
      cases hi
    · rw [List.getElem?_eq_none (by simpa using hl)] at hi
      cases hi
  · rw [List.getElem?_set_ne hij] at hi
    exact hi
end ZD
