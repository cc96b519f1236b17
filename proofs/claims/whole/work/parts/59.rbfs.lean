/-! searching in breadth: the queue is an exploring (gAt) over nodes -/
theorem gCase (nxt : Nat → Nat → Option Nat) (c0 t : Nat) : ((gAt nxt c0 (t + 1)).1 = (gAt nxt c0 t).1 ∧ (gAt nxt c0 (t + 1)).2.2 = (gAt nxt c0 t).2.2) ∨ ∃ c d, (gAt nxt c0 t).1[t / 12]? = some c ∧ nxt c (t % 12) = some d ∧ d ∉ (gAt nxt c0 t).1 ∧ (gAt nxt c0 (t + 1)).1 = (gAt nxt c0 t).1 ++ [d] ∧ (gAt nxt c0 (t + 1)).2.2 = (gAt nxt c0 t).2.2 ++ [12 + t] := by
  have e1 : 12 * (t / 12 + 1) + t % 12 = 12 + t := by omega
  simp only [gAt]
  unfold gStep
  split
  · exact Or.inl ⟨rfl, rfl⟩
  · next c hc =>
    split
    · exact Or.inl ⟨rfl, rfl⟩
    · next d hd =>
      split
      · exact Or.inl ⟨rfl, rfl⟩
      · next hm => exact Or.inr ⟨c, d, hc, hd, hm, rfl, by rw [e1]⟩
theorem getD_app (l : List Nat) (x j : Nat) : (l ++ [x]).getD j 0 = if j < l.length then l.getD j 0 else if j = l.length then x else 0 := by
  simp only [List.getD_eq_getElem?_getD]
  by_cases h : j < l.length
  · rw [List.getElem?_append_left h, if_pos h]
  · rw [if_neg h]
    by_cases h2 : j = l.length
    · subst h2
      simp
    · rw [if_neg h2, List.getElem?_eq_none (by simp; omega)]
      rfl
theorem fb_s {nxt : Nat → Nat → Option Nat} {c0 t j : Nat} (hj : j < (gAt nxt c0 t).1.length) : fb (gAt nxt c0 (t + 1)) j = fb (gAt nxt c0 t) j := by
  have hl := gAt_fbl nxt c0 t
  rcases gCase nxt c0 t with ⟨_, h2⟩ | ⟨c, d, _, _, _, _, h2⟩
  · unfold fb; rw [h2]
  · unfold fb; rw [h2, getD_app, if_pos (by omega)]
theorem fb_pre {nxt : Nat → Nat → Option Nat} {c0 t j : Nat} (hj : j < (gAt nxt c0 t).1.length) : ∀ s, fb (gAt nxt c0 (t + s)) j = fb (gAt nxt c0 t) j
  | 0 => rfl
  | s + 1 => by
    rw [← Nat.add_assoc, fb_s (Nat.lt_of_lt_of_le hj (gAt_len (by omega)))]
    exact fb_pre hj s
theorem fb_lt (nxt : Nat → Nat → Option Nat) (c0 : Nat) : ∀ t j, 1 ≤ j → j < (gAt nxt c0 t).1.length → fb (gAt nxt c0 t) j < 12 + t
  | 0, j, h1, h2 => by
    simp only [gAt, List.length_cons, List.length_nil] at h2
    omega
  | t + 1, j, h1, h2 => by
    have ih := fb_lt nxt c0 t
    by_cases hj : j < (gAt nxt c0 t).1.length
    · rw [fb_s hj]
      have := ih j h1 hj
      omega
    · rcases gCase nxt c0 t with ⟨h3, _⟩ | ⟨c, d, _, _, _, h3, h4⟩
      · rw [h3] at h2; exact absurd h2 hj
      · have hl := gAt_fbl nxt c0 t
        rw [h3] at h2
        simp only [List.length_append, List.length_cons, List.length_nil] at h2
        unfold fb
        rw [h4, getD_app, if_neg (by omega), if_pos (by omega)]
        omega
theorem fb_up (nxt : Nat → Nat → Option Nat) (c0 : Nat) : ∀ t j j', 1 ≤ j → j < j' → j' < (gAt nxt c0 t).1.length → fb (gAt nxt c0 t) j < fb (gAt nxt c0 t) j'
  | 0, j, j', h1, h2, h3 => by
    simp only [gAt, List.length_cons, List.length_nil] at h3
    omega
  | t + 1, j, j', h1, h2, h3 => by
    have ih := fb_up nxt c0 t
    by_cases hj : j' < (gAt nxt c0 t).1.length
    · rw [fb_s hj, fb_s (by omega)]
      exact ih j j' h1 h2 hj
    · rcases gCase nxt c0 t with ⟨h4, _⟩ | ⟨c, d, _, _, _, h4, h5⟩
      · rw [h4] at h3; exact absurd h3 hj
      · have hl := gAt_fbl nxt c0 t
        rw [h4] at h3
        simp only [List.length_append, List.length_cons, List.length_nil] at h3
        rw [fb_s (by omega)]
        have h6 := fb_lt nxt c0 t j h1 (by omega)
        have h7 : fb (gAt nxt c0 (t + 1)) j' = 12 + t := by
          unfold fb
          rw [h5, getD_app, if_neg (by omega), if_pos (by omega)]
        omega
theorem fb_nx (nxt : Nat → Nat → Option Nat) (c0 : Nat) : ∀ t j, 1 ≤ j → j < (gAt nxt c0 t).1.length → ∃ y x, (gAt nxt c0 t).1[fb (gAt nxt c0 t) j / 12 - 1]? = some y ∧ (gAt nxt c0 t).1[j]? = some x ∧ nxt y (fb (gAt nxt c0 t) j % 12) = some x
  | 0, j, h1, h2 => by
    simp only [gAt, List.length_cons, List.length_nil] at h2
    omega
  | t + 1, j, h1, h2 => by
    have ih := fb_nx nxt c0 t
    by_cases hj : j < (gAt nxt c0 t).1.length
    · rw [fb_s hj]
      obtain ⟨y, x, h3, h4, h5⟩ := ih j h1 hj
      exact ⟨y, x, gAt_get (by omega) h3, gAt_get (by omega) h4, h5⟩
    · rcases gCase nxt c0 t with ⟨h4, _⟩ | ⟨c, d, h6, h7, h8, h4, h5⟩
      · rw [h4] at h2; exact absurd h2 hj
      · have hl := gAt_fbl nxt c0 t
        have h3 := h2
        rw [h4] at h3
        simp only [List.length_append, List.length_cons, List.length_nil] at h3
        have h9 : fb (gAt nxt c0 (t + 1)) j = 12 + t := by
          unfold fb
          rw [h5, getD_app, if_neg (by omega), if_pos (by omega)]
        refine ⟨c, d, ?_, ?_, ?_⟩
        · rw [h9, show (12 + t) / 12 - 1 = t / 12 by omega]
          exact gAt_get (by omega) h6
        · rw [h4, show j = (gAt nxt c0 t).1.length by omega]
          simp
        · rw [h9, show (12 + t) % 12 = t % 12 by omega]
          exact h7
theorem wB_0 (f : Nat → Nat) : ∀ d, wB f d 0 = []
  | 0 => rfl
  | d + 1 => by simp [wB]
theorem wB_c {f : Nat → Nat} {d k : Nat} (h : k ≠ 0) : wB f (d + 1) k = f k % 12 :: wB f d (f k / 12 - 1) := by
  simp only [wB, if_neg h]
theorem wB_fuel {f : Nat → Nat} {n : Nat} (hf : ∀ k, 1 ≤ k → k < n → 12 ≤ f k ∧ f k / 12 ≤ k) : ∀ k, k < n → ∀ d d', k ≤ d → k ≤ d' → wB f d k = wB f d' k := by
  intro k
  induction k using Nat.strongRecOn with
  | _ k ih =>
    intro hk d d' h1 h2
    by_cases h0 : k = 0
    · subst h0
      rw [wB_0, wB_0]
    · obtain ⟨d1, rfl⟩ : ∃ d1, d = d1 + 1 := ⟨d - 1, by omega⟩
      obtain ⟨d2, rfl⟩ : ∃ d2, d' = d2 + 1 := ⟨d' - 1, by omega⟩
      have := hf k (by omega) hk
      simp only [wB, if_neg h0]
      rw [ih (f k / 12 - 1) (by omega) (by omega) d1 d2 (by omega) (by omega)]
theorem wB_ext {f f' : Nat → Nat} {n : Nat} (hf : ∀ k, 1 ≤ k → k < n → 12 ≤ f k ∧ f k / 12 ≤ k) (he : ∀ k, k < n → f' k = f k) : ∀ d k, k < n → wB f' d k = wB f d k
  | 0, _, _ => rfl
  | d + 1, k, hk => by
    simp only [wB]
    by_cases h0 : k = 0
    · rw [if_pos h0, if_pos h0]
    · rw [if_neg h0, if_neg h0, he k hk]
      have := hf k (by omega) hk
      rw [wB_ext hf he d _ (by omega)]
theorem wB_pre {nxt : Nat → Nat → Option Nat} {c0 t j : Nat} (hj : j < (gAt nxt c0 t).1.length) (s : Nat) : wB (fb (gAt nxt c0 (t + s))) 200 j = wB (fb (gAt nxt c0 t)) 200 j :=
  wB_ext (gAt_fb nxt c0 t) (fun _ hk => fb_pre hk s) 200 j hj
def dp (g : gT) (j : Nat) : Nat := (wB (fb g) 200 j).length
theorem dp_0 (g : gT) : dp g 0 = 0 := by unfold dp; rw [wB_0]; rfl
theorem dp_s {g : gT} (hg : gFb g) {j : Nat} (h1 : 1 ≤ j) (hj : j < g.1.length) (hl : g.1.length ≤ 200) : wB (fb g) 200 j = fb g j % 12 :: wB (fb g) 200 (fb g j / 12 - 1) := by
  have h2 := hg j h1 hj
  have h3 := wB_c (f := fb g) (d := 199) (k := j) (by omega)
  rw [wB_fuel hg (fb g j / 12 - 1) (by omega) 199 200 (by omega) (by omega)] at h3
  exact h3
theorem dp_1 {g : gT} (hg : gFb g) {j : Nat} (h1 : 1 ≤ j) (hj : j < g.1.length) (hl : g.1.length ≤ 200) : dp g j = dp g (fb g j / 12 - 1) + 1 := by
  unfold dp
  rw [dp_s hg h1 hj hl]
  rfl
theorem dp_up {nxt : Nat → Nat → Option Nat} {c0 t : Nat} (hl : (gAt nxt c0 t).1.length ≤ 200) : ∀ j' j, j ≤ j' → j' < (gAt nxt c0 t).1.length → dp (gAt nxt c0 t) j ≤ dp (gAt nxt c0 t) j' := by
  intro j'
  induction j' using Nat.strongRecOn with
  | _ j' ih =>
    intro j hjj hj'
    by_cases h0 : j = 0
    · subst h0; rw [dp_0]; omega
    · by_cases he : j = j'
      · subst he; omega
      · have hg := gAt_fb nxt c0 t
        have h1 := hg j (by omega) (by omega)
        have h2 := hg j' (by omega) hj'
        have h3 := fb_up nxt c0 t j j' (by omega) (by omega) hj'
        rw [dp_1 hg (by omega) (by omega) hl, dp_1 hg (by omega) hj' hl]
        have := ih (fb (gAt nxt c0 t) j' / 12 - 1) (by omega) (fb (gAt nxt c0 t) j / 12 - 1) (by omega) (by omega)
        omega
def nxT (T : Nat → Nat → Nat) (k e : Nat) : Option Nat := if T k e = 0 then none else some (T k e - 1)
theorem nxK_T (tg : Nat → Nat → Nat) (K : Nat → Bool) : nxK tg K = nxT (ktg tg K) := rfl
theorem gAt_hd (nxt : Nat → Nat → Option Nat) (c0 t : Nat) : (gAt nxt c0 t).1[0]? = some c0 := gAt_get (Nat.zero_le t) rfl
theorem gAt_K {tg : Nat → Nat → Nat} {K : Nat → Bool} {f : Nat} (hf : K f = true) : ∀ t, ∀ x ∈ (gAt (nxK tg K) f t).1, K x = true
  | 0, x, hx => by
    have : x = f := by simpa [gAt] using hx
    rw [this]; exact hf
  | t + 1, x, hx => by
    rcases gCase (nxK tg K) f t with ⟨h3, _⟩ | ⟨c, d, h6, h7, h8, h4, h5⟩
    · rw [h3] at hx; exact gAt_K hf t x hx
    · rw [h4] at hx
      rcases List.mem_append.mp hx with hx | hx
      · exact gAt_K hf t x hx
      · have : x = d := by simpa using hx
        subst this
        unfold nxK at h7
        split at h7
        · cases h7
        · next hne =>
          have := (ktg_some hne).2
          rw [← Option.some.inj h7]
          exact this
theorem bSound {tg : Nat → Nat → Nat} {K G : Nat → Bool} {f t : Nat} (hf : K f = true) (hl : (gAt (nxK tg K) f t).1.length ≤ 200) : ∀ j x, (gAt (nxK tg K) f t).1[j]? = some x → ∀ d, rch tg K G d x = true → rch tg K G (dp (gAt (nxK tg K) f t) j + d) f = true := by
  intro j
  induction j using Nat.strongRecOn with
  | _ j ih =>
    intro x hx d hd
    have hj := (List.getElem?_eq_some_iff.mp hx).1
    by_cases h0 : j = 0
    · subst h0
      rw [gAt_hd] at hx
      cases hx
      rw [dp_0, Nat.zero_add]
      exact hd
    · have hg := gAt_fb (nxK tg K) f t
      have h1 := hg j (by omega) hj
      obtain ⟨y, x', h2, h3, h4⟩ := fb_nx (nxK tg K) f t j (by omega) hj
      rw [h3] at hx
      cases hx
      unfold nxK at h4
      split at h4
      · cases h4
      · next hne =>
        have h5 := Option.some.inj h4
        have h6 := (ktg_some hne).1
        have hy := gAt_K hf t y (List.mem_of_getElem? h2)
        have h7 := rch_go (tg := tg) (K := K) (G := G) hy (Nat.mod_lt _ (by decide)) (u := x) (by rw [h6]; omega) hd
        have h8 := ih (fb (gAt (nxK tg K) f t) j / 12 - 1) (by omega) y h2 (d + 1) h7
        rw [dp_1 hg (by omega) hj hl]
        rw [show dp (gAt (nxK tg K) f t) (fb (gAt (nxK tg K) f t) j / 12 - 1) + 1 + d = dp (gAt (nxK tg K) f t) (fb (gAt (nxK tg K) f t) j / 12 - 1) + (d + 1) by omega]
        exact h8
theorem bFront {tg : Nat → Nat → Nat} {K G : Nat → Bool} {f i : Nat} (hl : (gAt (nxK tg K) f (12 * i)).1.length ≤ 200) (hi : ∀ j, j < i → j < (gAt (nxK tg K) f (12 * j)).1.length) (hG : ∀ j x : Nat, j < i → (gAt (nxK tg K) f (12 * i)).1[j]? = some x → G x = false) : ∀ d j x, (gAt (nxK tg K) f (12 * i)).1[j]? = some x → rch tg K G d x = true → ∃ j', i ≤ j' ∧ j' < (gAt (nxK tg K) f (12 * i)).1.length ∧ dp (gAt (nxK tg K) f (12 * i)) j' ≤ dp (gAt (nxK tg K) f (12 * i)) j + d := by
  intro d
  induction d with
  | zero =>
    intro j x hx hr
    have hj := (List.getElem?_eq_some_iff.mp hx).1
    by_cases hji : i ≤ j
    · exact ⟨j, hji, hj, by omega⟩
    · have := hG j x (by omega) hx
      simp only [rch, Bool.and_eq_true] at hr
      rw [this] at hr
      cases hr.2
  | succ d ih =>
    intro j x hx hr
    have hj := (List.getElem?_eq_some_iff.mp hx).1
    by_cases hji : i ≤ j
    · exact ⟨j, hji, hj, by omega⟩
    · simp only [rch] at hr
      rcases Bool.or_eq_true _ _ ▸ hr with h1 | h1
      · obtain ⟨j', a1, a2, a3⟩ := ih j x hx h1
        exact ⟨j', a1, a2, by omega⟩
      · rw [Bool.and_eq_true] at h1
        obtain ⟨e, he, h2⟩ := any_iff.mp h1.2
        rw [Bool.and_eq_true] at h2
        have h0 : tg x e ≠ 0 := by simpa using h2.1
        have hKy := rch_K h2.2
        have hn : nxK tg K x e = some (tg x e - 1) := by
          unfold nxK
          rw [ktg_t h0 hKy, if_neg h0]
        have hx0 : (gAt (nxK tg K) f (12 * j)).1[j]? = some x := by
          have h3 := hi j (by omega)
          have h4 : (gAt (nxK tg K) f (12 * j)).1[j]? = some _ := List.getElem?_eq_getElem h3
          have h5 := gAt_get (show 12 * j ≤ 12 * i by omega) h4
          rw [h5] at hx
          rw [h4]
          exact hx
        obtain ⟨j2, h6, _⟩ := (gTo_at he hx0 0).2 _ hn
        rw [Nat.add_zero] at h6
        have hj2 := (List.getElem?_eq_some_iff.mp h6).1
        have hj2' : j2 < (gAt (nxK tg K) f (12 * i)).1.length := Nat.lt_of_lt_of_le hj2 (gAt_len (by omega))
        have h7 := gAt_get (show 12 * j + e + 1 ≤ 12 * i by omega) h6
        have h8 : dp (gAt (nxK tg K) f (12 * i)) j2 ≤ dp (gAt (nxK tg K) f (12 * i)) j + 1 := by
          by_cases hz : j2 = 0
          · subst hz; rw [dp_0]; omega
          · have hg := gAt_fb (nxK tg K) f (12 * i)
            have h9 := fb_lt (nxK tg K) f (12 * j + e + 1) j2 (by omega) hj2
            have h10 := fb_pre hj2 (12 * i - (12 * j + e + 1))
            rw [show 12 * j + e + 1 + (12 * i - (12 * j + e + 1)) = 12 * i by omega] at h10
            rw [dp_1 hg (by omega) hj2' hl]
            have := dp_up hl j (fb (gAt (nxK tg K) f (12 * i)) j2 / 12 - 1) (by omega) hj
            omega
        obtain ⟨j', a1, a2, a3⟩ := ih j2 _ h7 h2.2
        exact ⟨j', a1, a2, by omega⟩
theorem bHome_yes {tg : Nat → Nat → Nat} {K G : Nat → Bool} {f i x : Nat} (hf : K f = true) (hl : (gAt (nxK tg K) f (12 * i)).1.length ≤ 200) (hi : ∀ j, j < i → j < (gAt (nxK tg K) f (12 * j)).1.length) (hG : ∀ j x : Nat, j < i → (gAt (nxK tg K) f (12 * i)).1[j]? = some x → G x = false) (hx : (gAt (nxK tg K) f (12 * i)).1[i]? = some x) (hGx : G x = true) : mDist tg K G f (dp (gAt (nxK tg K) f (12 * i)) i : Int) := by
  refine Or.inr ⟨_, rfl, wB_len _ _ _, ?_, fun d' hd => ?_⟩
  · have hK := gAt_K hf _ x (List.mem_of_getElem? hx)
    have := bSound (G := G) hf hl i x hx 0 (by simp [rch, hK, hGx])
    exact this
  · cases hr : rch tg K G d' f
    · rfl
    · obtain ⟨j', a1, a2, a3⟩ := bFront hl hi hG d' 0 f (gAt_hd _ _ _) hr
      rw [dp_0] at a3
      have := dp_up hl j' i a1 a2
      omega
theorem bHome_no {tg : Nat → Nat → Nat} {K G : Nat → Bool} {f i : Nat} (hl : (gAt (nxK tg K) f (12 * i)).1.length ≤ 200) (hi : ∀ j, j < i → j < (gAt (nxK tg K) f (12 * j)).1.length) (hG : ∀ j x : Nat, j < i → (gAt (nxK tg K) f (12 * i)).1[j]? = some x → G x = false) (hn : (gAt (nxK tg K) f (12 * i)).1.length ≤ i) : mDist tg K G f (-1) := by
  refine Or.inl ⟨rfl, fun d => ?_⟩
  cases hr : rch tg K G d f
  · rfl
  · obtain ⟨j', a1, a2, a3⟩ := bFront hl hi hG d 0 f (gAt_hd _ _ _) hr
    omega
theorem gFin_pre {nxt : Nat → Nat → Option Nat} {c0 N : Nat} (hF : gFin nxt c0 N) {t j c : Nat} (h : (gAt nxt c0 t).1[j]? = some c) : (gAt nxt c0 (12 * N)).1[j]? = some c := by
  by_cases ht : t ≤ 12 * N
  · exact gAt_get ht h
  · rw [show t = 12 * N + (t - 12 * N) by omega, gFin_stable hF] at h
    exact h
theorem bIso {nxt : Nat → Nat → Option Nat} {c0 N : Nat} (hF : gFin nxt c0 N) : ∀ t, gAt (nxT (gtg (gAt nxt c0 (12 * N)))) 0 t = (List.range (gAt nxt c0 t).1.length, (gAt nxt c0 t).2.1, (gAt nxt c0 t).2.2)
  | 0 => rfl
  | t + 1 => by
    have ih := bIso hF t
    have hnd := gAt_nodup nxt c0 (12 * N)
    have hpre1 : ∀ j c, (gAt nxt c0 (t + 1)).1[j]? = some c → (gAt nxt c0 (12 * N)).1[j]? = some c := fun j c h => gFin_pre hF h
    have hpre : ∀ j c, (gAt nxt c0 t).1[j]? = some c → (gAt nxt c0 (12 * N)).1[j]? = some c := fun j c h => gFin_pre hF h
    have hN := hF.1
    have hto : ∀ c e, e < 12 → (gAt nxt c0 t).1[t / 12]? = some c → (nxt c e = none → nxT (gtg (gAt nxt c0 (12 * N))) (t / 12) e = none) ∧ ∀ d, nxt c e = some d → ∃ j, (gAt nxt c0 (12 * N)).1[j]? = some d ∧ nxT (gtg (gAt nxt c0 (12 * N))) (t / 12) e = some j := by
      intro c e he hc
      have hk : t / 12 < N := by
        have := (List.getElem?_eq_some_iff.mp (hpre _ _ hc)).1
        omega
      obtain ⟨c', h1, h2, h3⟩ := gTo_fin hF hk he
      rw [hpre _ _ hc] at h1
      cases h1
      refine ⟨fun h => ?_, fun d h => ?_⟩
      · unfold nxT
        rw [if_pos (h2 h)]
      · obtain ⟨j, h4, h5⟩ := h3 d h
        refine ⟨j, h4, ?_⟩
        unfold nxT
        have h6 : gtg (gAt nxt c0 (12 * N)) (t / 12) e = j + 1 := h5
        rw [h6]
        simp
    have e0 : gAt (nxT (gtg (gAt nxt c0 (12 * N)))) 0 (t + 1) = gStep (nxT (gtg (gAt nxt c0 (12 * N)))) (gAt (nxT (gtg (gAt nxt c0 (12 * N)))) 0 t) (t / 12) (t % 12) := rfl
    have e1 : gAt nxt c0 (t + 1) = gStep nxt (gAt nxt c0 t) (t / 12) (t % 12) := rfl
    rw [e0, ih]
    have hs1 : ∀ g', gAt nxt c0 (t + 1) = g' → (∀ j c, g'.1[j]? = some c → (gAt nxt c0 (12 * N)).1[j]? = some c) := fun g' h => by rw [← h]; exact hpre1
    generalize nxT (gtg (gAt nxt c0 (12 * N))) = nx at hto
    rw [e1] at hs1 ⊢
    generalize gAt nxt c0 t = g at hto hpre hs1
    obtain ⟨L, ES, FB⟩ := g
    cases hc : L[t / 12]? with
    | none =>
      have : (List.range L.length)[t / 12]? = none := by
        rw [List.getElem?_eq_none_iff] at hc ⊢
        simpa using hc
      rw [gStep_off this, gStep_off hc]
    | some c =>
      have hlt := (List.getElem?_eq_some_iff.mp hc).1
      have hr : (List.range L.length)[t / 12]? = some (t / 12) := by
        rw [List.getElem?_range hlt]
      have h12 := hto c (t % 12) (Nat.mod_lt _ (by decide)) hc
      cases hn : nxt c (t % 12) with
      | none => rw [gStep_none hc hn, gStep_none hr (h12.1 hn)]
      | some d =>
        obtain ⟨j, h1, h2⟩ := h12.2 d hn
        by_cases hd : d ∈ L
        · obtain ⟨j0, hj0⟩ := List.getElem?_of_mem hd
          have := nodup_get hnd (hpre j0 d hj0) h1
          subst this
          have hj0l := (List.getElem?_eq_some_iff.mp hj0).1
          rw [gStep_old hc hn hj0 (fun i hi => nodup_get hnd (hpre i d hi) h1)]
          rw [gStep_old hr h2 (List.getElem?_range hj0l) (fun i hi => by
            have hil := (List.getElem?_eq_some_iff.mp hi).1
            rw [List.length_range] at hil
            rw [List.getElem?_range hil] at hi
            exact Option.some.inj hi)]
        · have hs2 := hs1 _ rfl L.length d (by rw [gStep_new hc hn hd]; simp)
          have := nodup_get hnd hs2 h1
          subst this
          rw [gStep_new hc hn hd]
          rw [gStep_new hr h2 (by simp)]
          simp [List.range_succ]
def bT (tg : Nat → Nat → Nat) (K : Nat → Bool) (lb : Bool) (k e : Nat) : Nat := if lb = true then tg k e else ktg tg K k e
def bS (K G : Nat → Bool) (lb : Bool) (k : Nat) : Bool := if lb = true then !K k else G k
theorem bT_le {N : Nat} {tg : Nat → Nat → Nat} {K : Nat → Bool} {lb : Bool} {k e : Nat} (h : tg k e ≤ N) : bT tg K lb k e ≤ N := by
  unfold bT ktg
  split
  · exact h
  · split
    · exact h
    · omega
def bQ (g : gT) (N : Nat) (μ : zM) : Prop := (g.1.length + cnt (fun k => decide (μ 71 k = -1)) N = N) ∧ (∀ x, x < N → x ∉ g.1 → μ 71 x = -1) ∧ ∀ j x : Nat, g.1[j]? = some x → x < N ∧ μ 72 j = (x : Int) ∧ μ 71 x = (dp g j : Int) ∧ (1 ≤ j → μ 70 x = ((fb g j % 12 : Nat) : Int) ∧ ∃ y : Nat, g.1[fb g j / 12 - 1]? = some y ∧ μ 69 x = (y : Int))
theorem bQ_r {g : gT} {N : Nat} {μ : zM} (h : bQ g N μ) {x : Nat} (hx : x < N) : (x ∈ g.1 ∧ 0 ≤ μ 71 x ∧ μ 71 x ≤ 200) ∨ (x ∉ g.1 ∧ μ 71 x = -1) := by
  by_cases hm : x ∈ g.1
  · obtain ⟨j, hj⟩ := List.getElem?_of_mem hm
    have h1 := (h.2.2 j x hj).2.2.1
    have h2 : dp g j ≤ 200 := wB_len _ _ _
    exact Or.inl ⟨hm, by omega, by omega⟩
  · exact Or.inr ⟨hm, h.2.1 x hx hm⟩
theorem bQ_old {g g' : gT} {N : Nat} {μ : zM} (h : bQ g N μ) (h1 : g'.1 = g.1) (h2 : g'.2.2 = g.2.2) : bQ g' N μ := by
  have h3 : fb g' = fb g := by funext j; unfold fb; rw [h2]
  have h4 : dp g' = dp g := by funext j; unfold dp; rw [h3]
  unfold bQ
  rw [h1, h3, h4]
  exact h
theorem bQ_congr {g : gT} {N : Nat} {μ μ' : zM} (h : bQ g N μ) (hq : ∀ q, 69 ≤ q → q ≤ 72 → μ' q = μ q) : bQ g N μ' := by
  unfold bQ
  rw [hq 69 (by omega) (by omega), hq 70 (by omega) (by omega), hq 71 (by omega) (by omega), hq 72 (by omega) (by omega)]
  exact h
theorem bQ_room {g : gT} {N y : Nat} {μ : zM} (h : bQ g N μ) (hy : y < N) (hm : y ∉ g.1) : g.1.length + 1 ≤ N := by
  have h1 := cnt_less (f := fun _ => false) (g := fun k => decide (μ 71 k = -1)) N (fun k _ h => by cases h) ⟨y, hy, rfl, by simp [h.2.1 y hy hm]⟩
  have := h.1
  omega
theorem bQ_new {g g' : gT} {N i e x y : Nat} {μ μ' : zM} (h : bQ g N μ) (hN : N ≤ 200) (hfl : g.2.2.length = g.1.length) (hg : gFb g') (hgo : gFb g) (hx : g.1[i]? = some x) (he : e < 12) (hy : y < N) (hm : y ∉ g.1) (h1 : g'.1 = g.1 ++ [y]) (h2 : g'.2.2 = g.2.2 ++ [12 * (i + 1) + e])
    (m71 : ∀ z, μ' 71 z = if z = y then (dp g i : Int) + 1 else μ 71 z) (m69 : ∀ z, μ' 69 z = if z = y then (x : Int) else μ 69 z) (m70 : ∀ z, μ' 70 z = if z = y then (e : Int) else μ 70 z) (m72 : ∀ z, μ' 72 z = if z = g.1.length then (y : Int) else μ 72 z) : bQ g' N μ' := by
  have hil := (List.getElem?_eq_some_iff.mp hx).1
  have hroom := bQ_room h hy hm
  have hl' : g'.1.length = g.1.length + 1 := by rw [h1]; simp
  have hfb : ∀ j, j < g.1.length → fb g' j = fb g j := fun j hj => by unfold fb; rw [h2, getD_app, if_pos (by omega)]
  have hfn : fb g' g.1.length = 12 * (i + 1) + e := by unfold fb; rw [h2, getD_app, if_neg (by omega), if_pos (by omega)]
  have hdp : ∀ j, j < g.1.length → dp g' j = dp g j := fun j hj => by unfold dp; rw [wB_ext hgo hfb 200 j hj]
  have hdn : dp g' g.1.length = dp g i + 1 := by
    rw [dp_1 hg (by omega) (by omega) (by omega), hfn, show (12 * (i + 1) + e) / 12 - 1 = i by omega, hdp i hil]
  refine ⟨?_, fun z hz hzn => ?_, fun j z hj => ?_⟩
  · have := cnt_drop (f := fun k => decide (μ 71 k = -1)) (g := fun k => decide (μ' 71 k = -1)) (k0 := y) (by simp [h.2.1 y hy hm]) (by rw [m71, if_pos rfl]; simp; omega) (fun z hz => by rw [m71, if_neg hz]) N hy
    have := h.1
    rw [hl']
    omega
  · rw [h1] at hzn
    rw [m71, if_neg (fun h9 => hzn (by rw [h9]; exact List.mem_append_right _ List.mem_cons_self))]
    exact h.2.1 z hz (fun h9 => hzn (List.mem_append_left _ h9))
  · have hjl := (List.getElem?_eq_some_iff.mp hj).1
    rw [h1] at hj
    by_cases hjo : j < g.1.length
    · rw [List.getElem?_append_left hjo] at hj
      obtain ⟨a1, a2, a3, a4⟩ := h.2.2 j z hj
      have hzy : z ≠ y := fun h9 => hm (h9 ▸ List.mem_of_getElem? hj)
      refine ⟨a1, by rw [m72, if_neg (by omega)]; exact a2, by rw [m71, if_neg hzy, hdp j hjo]; exact a3, fun hj1 => ?_⟩
      obtain ⟨b1, y', b2, b3⟩ := a4 hj1
      rw [m70, if_neg hzy, m69, if_neg hzy, hfb j hjo, h1]
      have := (List.getElem?_eq_some_iff.mp b2).1
      exact ⟨b1, y', by rw [List.getElem?_append_left this]; exact b2, b3⟩
    · have hje : j = g.1.length := by omega
      subst hje
      simp at hj
      subst hj
      refine ⟨hy, by rw [m72, if_pos rfl], by rw [m71, if_pos rfl, hdn]; omega, fun _ => ?_⟩
      rw [m70, if_pos rfl, m69, if_pos rfl, hfn, h1, show (12 * (i + 1) + e) / 12 - 1 = i by omega, show (12 * (i + 1) + e) % 12 = e by omega]
      exact ⟨rfl, x, by rw [List.getElem?_append_left hil]; exact hx, rfl⟩
theorem bQ_0 {N f : Nat} {μ μ' : zM} {nxt : Nat → Nat → Option Nat} (hf : f < N) (h0 : ∀ z, z < N → μ 71 z = -1) (m71 : ∀ z, μ' 71 z = if z = f then 0 else μ 71 z) (m72 : μ' 72 0 = (f : Int)) : bQ (gAt nxt f 0) N μ' := by
  have e0 : gAt nxt f 0 = ([f], [], [0]) := rfl
  rw [e0]
  refine ⟨?_, fun z hz hzn => ?_, fun j z hj => ?_⟩
  · have h1 := cnt_all (f := fun k => decide (μ 71 k = -1)) N (fun k hk => by simp [h0 k hk])
    have := cnt_drop (f := fun k => decide (μ 71 k = -1)) (g := fun k => decide (μ' 71 k = -1)) (k0 := f) (by simp [h0 f hf]) (by rw [m71, if_pos rfl]; simp) (fun z hz => by rw [m71, if_neg hz]) N hf
    simp only [List.length_cons, List.length_nil]
    omega
  · rw [m71, if_neg (by simpa using hzn)]
    exact h0 z hz
  · have hj0 : j = 0 := by
      have : j < 1 := (List.getElem?_eq_some_iff.mp hj).1
      omega
    subst hj0
    simp at hj
    subst hj
    exact ⟨hf, m72, by rw [m71, if_pos rfl, dp_0]; rfl, fun h => absurd h (by omega)⟩
theorem bQ_go_none {g : gT} {N x i e : Nat} {μ : zM} {T : Nat → Nat → Nat} {f : Nat} (hg : g = gAt (nxT T) f (12 * i + e)) (h : bQ g N μ) (he : e < 12) (hx : g.1[i]? = some x) (h0 : T x e = 0) : bQ (gAt (nxT T) f (12 * i + (e + 1))) N μ ∧ (gAt (nxT T) f (12 * i + (e + 1))).1.length = g.1.length := by
  subst hg
  rw [gAt_next _ _ he, gStep_none hx (by unfold nxT; rw [if_pos h0])]
  exact ⟨h, rfl⟩
theorem bQ_go_old {g : gT} {N x i e : Nat} {μ : zM} {T : Nat → Nat → Nat} {f : Nat} (hg : g = gAt (nxT T) f (12 * i + e)) (h : bQ g N μ) (he : e < 12) (hx : g.1[i]? = some x) (h0 : T x e ≠ 0) (hm : T x e - 1 ∈ g.1) : bQ (gAt (nxT T) f (12 * i + (e + 1))) N μ ∧ (gAt (nxT T) f (12 * i + (e + 1))).1.length = g.1.length := by
  subst hg
  have hn : nxT T x e = some (T x e - 1) := by unfold nxT; rw [if_neg h0]
  have e1 : (gAt (nxT T) f (12 * i + (e + 1))).1 = (gAt (nxT T) f (12 * i + e)).1 ∧ (gAt (nxT T) f (12 * i + (e + 1))).2.2 = (gAt (nxT T) f (12 * i + e)).2.2 := by
    rw [gAt_next _ _ he]
    simp only [gStep, hx, hn, if_pos hm]
    exact ⟨trivial, trivial⟩
  exact ⟨bQ_old h e1.1 e1.2, by rw [e1.1]⟩
theorem bQ_go_new {g : gT} {N x i e : Nat} {μ μ' : zM} {T : Nat → Nat → Nat} {f : Nat} (hg : g = gAt (nxT T) f (12 * i + e)) (h : bQ g N μ) (hN : N ≤ 200) (he : e < 12) (hx : g.1[i]? = some x) (h0 : T x e ≠ 0) (hy : T x e - 1 < N) (hm : T x e - 1 ∉ g.1)
    (m71 : ∀ z, μ' 71 z = if z = T x e - 1 then (dp g i : Int) + 1 else μ 71 z) (m69 : ∀ z, μ' 69 z = if z = T x e - 1 then (x : Int) else μ 69 z) (m70 : ∀ z, μ' 70 z = if z = T x e - 1 then (e : Int) else μ 70 z) (m72 : ∀ z, μ' 72 z = if z = g.1.length then ((T x e - 1 : Nat) : Int) else μ 72 z) : bQ (gAt (nxT T) f (12 * i + (e + 1))) N μ' ∧ (gAt (nxT T) f (12 * i + (e + 1))).1.length = g.1.length + 1 := by
  subst hg
  have hn : nxT T x e = some (T x e - 1) := by unfold nxT; rw [if_neg h0]
  have e1 : (gAt (nxT T) f (12 * i + (e + 1))).1 = (gAt (nxT T) f (12 * i + e)).1 ++ [T x e - 1] ∧ (gAt (nxT T) f (12 * i + (e + 1))).2.2 = (gAt (nxT T) f (12 * i + e)).2.2 ++ [12 * (i + 1) + e] := by
    rw [gAt_next _ _ he]
    simp only [gStep, hx, hn, if_neg hm]
    exact ⟨trivial, trivial⟩
  exact ⟨bQ_new h hN (gAt_fbl _ _ _) (gAt_fb _ _ _) (gAt_fb _ _ _) hx he hy hm e1.1 e1.2 m71 m69 m70 m72, by rw [e1.1]; simp⟩
