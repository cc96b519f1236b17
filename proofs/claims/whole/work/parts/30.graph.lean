/-! the graph: nodes' codes L (node k has number k + 1), edges ES (number, target), the edge FB by which each node was found -/
abbrev gT : Type := List Nat × List (Nat × Nat) × List Nat
def gBase (L : List Nat) (μ : zM) : Prop := μ 15 0 = (L.length : Int) ∧ L.length ≤ 200 ∧ (∀ (k c : Nat), L[k]? = some c → c < 4096 ∧ μ 17 (k + 1) = (c : Int) ∧ μ 16 c = ((k + 1 : Nat) : Int)) ∧ ∀ c : Nat, c < 4096 → c ∉ L → μ 16 c = 0
def gCh (μ : zM) : Int → List Nat → Prop
  | x, [] => x = 0
  | x, y :: l => x = (y : Int) ∧ gCh μ (μ 24 y) l
def chn (ES : List (Nat × Nat)) (t : Nat) : List Nat := ((ES.filter (fun q => decide (q.2 = t))).map (fun q => q.1)).reverse
def gEd (n : Nat) (ES : List (Nat × Nat)) (μ : zM) : Prop := (∀ q ∈ ES, (12 ≤ q.1 ∧ q.1 < 12 * (n + 1)) ∧ (1 ≤ q.2 ∧ q.2 ≤ n) ∧ μ 22 q.1 = (q.2 : Int)) ∧ (∀ x, 12 ≤ x → x < 12 * (n + 1) → (∀ q ∈ ES, q.1 ≠ x) → μ 22 x = 0) ∧ ∀ t, 1 ≤ t → t ≤ n → gCh μ (μ 23 t) (chn ES t)
def gRep (g : gT) (μ : zM) : Prop := gBase g.1 μ ∧ gEd g.1.length g.2.1 μ ∧ g.2.2.length = g.1.length ∧ ∀ (k x : Nat), g.2.2[k]? = some x → μ 21 (k + 1) = (x : Int)
theorem gCh_congr {μ μ' : zM} : ∀ (l : List Nat) (x : Int), (∀ y ∈ l, μ' 24 y = μ 24 y) → gCh μ x l → gCh μ' x l
  | [], _, _, h => h
  | y :: l, x, hq, h => ⟨h.1, by rw [hq y List.mem_cons_self]; exact gCh_congr l _ (fun z hz => hq z (List.mem_cons_of_mem _ hz)) h.2⟩
theorem chn_mem {ES : List (Nat × Nat)} {t x : Nat} : x ∈ chn ES t ↔ (x, t) ∈ ES := by
  simp only [chn, List.mem_reverse, List.mem_map, List.mem_filter, decide_eq_true_eq]
  constructor
  · rintro ⟨⟨y, s⟩, ⟨h1, h2⟩, h3⟩
    simp only at h2 h3
    subst h2; subst h3
    exact h1
  · intro h
    exact ⟨(x, t), ⟨h, rfl⟩, rfl⟩
theorem chn_add (ES : List (Nat × Nat)) (x s t : Nat) : chn (ES ++ [(x, s)]) t = if s = t then x :: chn ES t else chn ES t := by
  by_cases h : s = t
  · simp [chn, List.filter_append, h]
  · simp [chn, List.filter_append, h]
theorem gBase_nodup {L : List Nat} {μ : zM} (h : gBase L μ) {i j c : Nat} (hi : L[i]? = some c) (hj : L[j]? = some c) : i = j := by
  have h1 := (h.2.2.1 i c hi).2.2
  have h2 := (h.2.2.1 j c hj).2.2
  omega
/-- what Graph.add does -/
def gAdded (μ : zM) (n c : Nat) (x : Int) (μ' : zM) : Prop := μ' 15 0 = ((n + 1 : Nat) : Int) ∧ (∀ j, μ' 16 j = if j = c then ((n + 1 : Nat) : Int) else μ 16 j) ∧ (∀ j, μ' 17 j = if j = n + 1 then (c : Int) else μ 17 j) ∧ (∀ j, μ' 21 j = if j = n + 1 then x else μ 21 j) ∧ (∀ j, μ' 23 j = if j = n + 1 then 0 else μ 23 j) ∧
  (∀ e, e < 12 → μ' 22 (12 * (n + 1) + e) = 0) ∧ (∀ j, j < 12 * (n + 1) → μ' 22 j = μ 22 j) ∧ ∀ q, q ≠ 15 → q ≠ 16 → q ≠ 17 → q ≠ 21 → q ≠ 22 → q ≠ 23 → μ' q = μ q
theorem gRep_add {L : List Nat} {ES : List (Nat × Nat)} {FB : List Nat} {μ μ' : zM} {c x : Nat} (h : gRep (L, ES, FB) μ) (hc : c < 4096) (hn : c ∉ L) (hl : L.length < 200) (ha : gAdded μ L.length c x μ') : gRep (L ++ [c], ES, FB ++ [x]) μ' := by
  obtain ⟨⟨b1, b2, b3, b4⟩, ⟨e1, e2, e3⟩, f1, f2⟩ := h
  obtain ⟨a1, a2, a3, a4, a5, a6, a7, a8⟩ := ha
  have a24 : μ' 24 = μ 24 := a8 24 (by omega) (by omega) (by omega) (by omega) (by omega) (by omega)
  have key : ∀ {α : Type} (l : List α) (y : α) (k : Nat) (z : α), (l ++ [y])[k]? = some z → l[k]? = some z ∨ (k = l.length ∧ z = y) := by
    intro α l y k z hk
    by_cases hkl : k < l.length
    · rw [List.getElem?_append_left hkl] at hk
      exact Or.inl hk
    · rw [List.getElem?_append_right (by omega)] at hk
      have h0 : k - l.length < 1 := (List.getElem?_eq_some_iff.mp hk).1
      have hk0 : k = l.length := by omega
      subst hk0
      simp at hk
      exact Or.inr ⟨rfl, hk.symm⟩
  refine ⟨⟨by rw [a1]; simp, by simp; omega, fun k d hk => ?_, fun d hd hdn => ?_⟩, ⟨fun q hq => ?_, fun y h1 h2 hy => ?_, fun t h1 h2 => ?_⟩, by simp; exact f1, fun k y hk => ?_⟩
  · rcases key L c k d hk with hk | ⟨rfl, rfl⟩
    · have hkl : k < L.length := (List.getElem?_eq_some_iff.mp hk).1
      obtain ⟨g1, g2, g3⟩ := b3 k d hk
      have hdc : d ≠ c := fun h => hn (h ▸ List.mem_of_getElem? hk)
      refine ⟨g1, ?_, ?_⟩
      · rw [a3, if_neg (by omega)]; exact g2
      · rw [a2, if_neg hdc]; exact g3
    · exact ⟨hc, by rw [a3, if_pos rfl], by rw [a2, if_pos rfl]⟩
  · have h1 : d ∉ L := fun h => hdn (List.mem_append_left _ h)
    have h2 : d ≠ c := fun h => hdn (h ▸ List.mem_append_right _ List.mem_cons_self)
    rw [a2, if_neg h2]
    exact b4 d hd h1
  · obtain ⟨g1, g2, g3⟩ := e1 q hq
    simp only [List.length_append, List.length_cons, List.length_nil]
    refine ⟨⟨g1.1, by have := g1.2; simp only at this; omega⟩, ⟨g2.1, by have := g2.2; simp only at this; omega⟩, ?_⟩
    rw [a7 _ g1.2]
    exact g3
  · simp only [List.length_append, List.length_cons, List.length_nil] at h2
    by_cases hy2 : y < 12 * (L.length + 1)
    · rw [a7 y hy2]
      exact e2 y h1 hy2 hy
    · have : y = 12 * (L.length + 1) + (y - 12 * (L.length + 1)) := by omega
      rw [this]
      exact a6 _ (by omega)
  · simp only [List.length_append, List.length_cons, List.length_nil] at h2
    by_cases ht : t = L.length + 1
    · subst ht
      rw [a5, if_pos rfl]
      have : chn ES (L.length + 1) = [] := by
        apply List.eq_nil_iff_forall_not_mem.mpr
        intro z hz
        have := (e1 _ (chn_mem.mp hz)).2.1
        simp only at this
        omega
      rw [this]
      rfl
    · rw [a5, if_neg ht]
      exact gCh_congr _ _ (fun z _ => by rw [a24]) (e3 t h1 (by simp only; omega))
  · rcases key FB x k y hk with hk | ⟨rfl, rfl⟩
    · have hkl : k < FB.length := (List.getElem?_eq_some_iff.mp hk).1
      rw [a4, if_neg (by simp only at f1; omega)]
      exact f2 k y hk
    · rw [a4, if_pos (by simp only at f1; omega)]
theorem gRep_first {μ μ' : zM} {c : Nat} (h16 : ∀ d, d < 4096 → μ 16 d = 0) (hc : c < 4096) (ha : gAdded μ 0 c 0 μ') : gRep ([c], [], [0]) μ' := by
  obtain ⟨a1, a2, a3, a4, a5, a6, a7, a8⟩ := ha
  refine ⟨⟨by rw [a1]; rfl, by simp, fun k d hk => ?_, fun d hd hdn => ?_⟩, ⟨fun q hq => by simp at hq, fun y h1 h2 hy => ?_, fun t h1 h2 => ?_⟩, rfl, fun k y hk => ?_⟩
  · have hk0 : k = 0 := by
      have : k < 1 := (List.getElem?_eq_some_iff.mp hk).1
      omega
    subst hk0
    simp at hk
    subst hk
    exact ⟨hc, by rw [a3, if_pos rfl], by rw [a2, if_pos rfl]⟩
  · have : d ≠ c := by simpa using hdn
    rw [a2, if_neg this]
    exact h16 d hd
  · have h2' : y < 24 := h2
    have : y = 12 * (0 + 1) + (y - 12) := by omega
    rw [this]
    exact a6 _ (by omega)
  · have h2' : t ≤ 1 := h2
    have : t = 0 + 1 := by omega
    subst this
    rw [a5, if_pos rfl]
    rfl
  · have hk0 : k = 0 := by
      have : k < 1 := (List.getElem?_eq_some_iff.mp hk).1
      omega
    subst hk0
    simp at hk
    subst hk
    rw [a4, if_pos rfl]
    rfl
theorem gRep_link {L : List Nat} {ES : List (Nat × Nat)} {FB : List Nat} {μ : zM} {x t : Nat} (h : gRep (L, ES, FB) μ) (ht : 1 ≤ t ∧ t ≤ L.length) (hx : 12 ≤ x ∧ x < 12 * (L.length + 1)) (hn : ∀ q ∈ ES, q.1 ≠ x) :
    gRep (L, ES ++ [(x, t)], FB) (zup (zup (zup μ 22 x t) 24 x (μ 23 t)) 23 t x) := by
  obtain ⟨⟨b1, b2, b3, b4⟩, ⟨e1, e2, e3⟩, f1, f2⟩ := h
  have m15 : zup (zup (zup μ 22 x t) 24 x (μ 23 t)) 23 t x 15 = μ 15 := by rw [zup_ne _ _ _ (by decide), zup_ne _ _ _ (by decide), zup_ne _ _ _ (by decide)]
  have m16 : zup (zup (zup μ 22 x t) 24 x (μ 23 t)) 23 t x 16 = μ 16 := by rw [zup_ne _ _ _ (by decide), zup_ne _ _ _ (by decide), zup_ne _ _ _ (by decide)]
  have m17 : zup (zup (zup μ 22 x t) 24 x (μ 23 t)) 23 t x 17 = μ 17 := by rw [zup_ne _ _ _ (by decide), zup_ne _ _ _ (by decide), zup_ne _ _ _ (by decide)]
  have m21 : zup (zup (zup μ 22 x t) 24 x (μ 23 t)) 23 t x 21 = μ 21 := by rw [zup_ne _ _ _ (by decide), zup_ne _ _ _ (by decide), zup_ne _ _ _ (by decide)]
  have m22 : ∀ j, zup (zup (zup μ 22 x t) 24 x (μ 23 t)) 23 t x 22 j = if j = x then (t : Int) else μ 22 j := by
    intro j
    rw [zup_ne _ _ _ (by decide), zup_ne _ _ _ (by decide), zup_at]
    simp
  have m24 : ∀ j, zup (zup (zup μ 22 x t) 24 x (μ 23 t)) 23 t x 24 j = if j = x then μ 23 t else μ 24 j := by
    intro j
    rw [zup_ne _ _ _ (by decide), zup_at]
    by_cases hj : j = x
    · simp [hj]
    · simp only [hj, and_false, if_false]
      rw [zup_ne _ _ _ (by decide)]
  have m23 : ∀ j, zup (zup (zup μ 22 x t) 24 x (μ 23 t)) 23 t x 23 j = if j = t then (x : Int) else μ 23 j := by
    intro j
    rw [zup_at]
    by_cases hj : j = t
    · simp [hj]
    · simp only [hj, and_false, if_false]
      rw [zup_ne _ _ _ (by decide), zup_ne _ _ _ (by decide)]
  generalize zup (zup (zup μ 22 x t) 24 x (μ 23 t)) 23 t x = μ' at m15 m16 m17 m21 m22 m23 m24
  refine ⟨⟨by rw [m15]; exact b1, b2, fun k c hk => by rw [m16, m17]; exact b3 k c hk, fun c hc hcn => by rw [m16]; exact b4 c hc hcn⟩, ⟨fun q hq => ?_, fun y h1 h2 hy => ?_, fun s h1 h2 => ?_⟩, f1, fun k y hk => by rw [m21]; exact f2 k y hk⟩
  · rcases List.mem_append.mp hq with hq | hq
    · obtain ⟨g1, g2, g3⟩ := e1 q hq
      exact ⟨g1, g2, by rw [m22, if_neg (hn q hq)]; exact g3⟩
    · have : q = (x, t) := by simpa using hq
      subst this
      exact ⟨hx, ht, by rw [m22, if_pos rfl]⟩
  · have hyx : y ≠ x := fun h => hy (x, t) (List.mem_append_right _ List.mem_cons_self) h.symm
    rw [m22, if_neg hyx]
    exact e2 y h1 h2 (fun q hq => hy q (List.mem_append_left _ hq))
  · rw [chn_add, m23]
    have hc : ∀ u, 1 ≤ u → u ≤ L.length → gCh μ' (μ 23 u) (chn ES u) := fun u hu1 hu2 =>
      gCh_congr _ _ (fun z hz => by rw [m24, if_neg (hn _ (chn_mem.mp hz))]) (e3 u hu1 hu2)
    by_cases hs : t = s
    · subst hs
      rw [if_pos rfl, if_pos rfl]
      refine ⟨rfl, ?_⟩
      rw [m24, if_pos rfl]
      exact hc t h1 h2
    · rw [if_neg hs, if_neg (fun h => hs h.symm)]
      exact hc s h1 h2
