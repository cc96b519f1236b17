/-! what each call answers: t the code of the throw (0: none), r the answer -/
def aSays (a : aT) (v : vT) (x y t r : Int) : Prop := (t = 0 ∧ ∃ N K M p, ∃ s k e : Nat, v = some (N, K, M, p) ∧ x = ((s + 1 : Nat) : Int) ∧ y = (e : Int) ∧ s < M ∧ e < 12 ∧ (eO a N K M)[s]? = some k ∧ r = vd (ktg (gtg (eg a N)) K k e) (sU a (eg a N) k e)) ∨ (t = 1 ∧ vM v = 0) ∨ (t = 2 ∧ vM v ≠ 0 ∧ ¬ ((1 ≤ x ∧ x ≤ vM v) ∧ 0 ≤ y ∧ y < 12))
def aLeads (a : aT) (v : vT) (x y t r : Int) : Prop := (t = 0 ∧ ∃ N K M p, ∃ s k e : Nat, v = some (N, K, M, p) ∧ x = ((s + 1 : Nat) : Int) ∧ y = (e : Int) ∧ s < M ∧ e < 12 ∧ (eO a N K M)[s]? = some k ∧ sT (eg a N) K (eO a N K M) k e r) ∨ (t = 1 ∧ vM v = 0) ∨ (t = 2 ∧ vM v ≠ 0 ∧ ¬ ((1 ≤ x ∧ x ≤ vM v) ∧ 0 ≤ y ∧ y < 12))
def aPart (a : aT) (v : vT) (x y t r : Int) : Prop := (t = 0 ∧ ∃ N K M p, ∃ s k i c : Nat, v = some (N, K, M, p) ∧ x = ((s + 1 : Nat) : Int) ∧ y = (i : Int) ∧ s < M ∧ i < aN a ∧ (eO a N K M)[s]? = some k ∧ (eg a N).1[k]? = some c ∧ r = (dig c i : Int)) ∨ (t = 1 ∧ vM v = 0) ∨ (t = 2 ∧ vM v ≠ 0 ∧ ¬ ((1 ≤ x ∧ x ≤ vM v) ∧ 0 ≤ y ∧ y < aN a))
def aMany (v : vT) (x t r : Int) : Prop := (t = 0 ∧ ∃ N K M p, v = some (N, K, M, p) ∧ ((x = 0 ∧ r = (N : Int)) ∨ (x = 1 ∧ r = (cnt K N : Int)))) ∨ (t = 1 ∧ ¬ (0 ≤ x ∧ x < 2)) ∨ (t = 2 ∧ (0 ≤ x ∧ x < 2) ∧ v = none)
def aWhy (a : aT) (v : vT) (t r : Int) : Prop := (t = 0 ∧ ∃ N K M p, v = some (N, K, M, p) ∧ sWl (eg a N) K r) ∨ (t = 1 ∧ v = none)
def aWhyE (a : aT) (v : vT) (x t r : Int) : Prop := (t = 0 ∧ ∃ N K M p, ∃ k i : Nat, v = some (N, K, M, p) ∧ x = (i : Int) ∧ k < (eg a N).1.length ∧ K k = false ∧ (∀ j, j < k → K j = true) ∧ i < (wB (fb (eg a N)) 200 k).length ∧ ∃ y : Nat, (wB (fb (eg a N)) 200 k)[(wB (fb (eg a N)) 200 k).length - 1 - i]? = some y ∧ r = (y : Int)) ∨ (t = 1 ∧ v = none) ∨ (t = 2 ∧ ∃ N K M p, v = some (N, K, M, p) ∧ ∃ w, sWl (eg a N) K w ∧ ¬ (0 ≤ x ∧ x < w))
def aAct (a : aT) (v : vT) (y t r : Int) (v' : vT) : Prop := (t = 0 ∧ ∃ N K M p, ∃ k e : Nat, v = some (N, K, M, p) ∧ p < M ∧ y = (e : Int) ∧ e < 12 ∧ (eO a N K M)[p]? = some k ∧ ((r = 2 ∧ ktg (gtg (eg a N)) K k e ≠ 0 ∧ ∃ p' : Nat, p' < M ∧ (eO a N K M)[p']? = some (ktg (gtg (eg a N)) K k e - 1) ∧ v' = some (N, K, M, p')) ∨ (r = 1 ∧ ktg (gtg (eg a N)) K k e = 0 ∧ sU a (eg a N) k e = true ∧ v' = v) ∨ (r = 0 ∧ ktg (gtg (eg a N)) K k e = 0 ∧ sU a (eg a N) k e = false ∧ v' = v))) ∨ (t = 1 ∧ vM v = 0 ∧ v' = v) ∨ (t = 2 ∧ vM v ≠ 0 ∧ ¬ (0 ≤ y ∧ y < 12) ∧ v' = v)
def aReset (v : vT) (t : Int) (v' : vT) : Prop := (t = 0 ∧ ∃ N K M p, v = some (N, K, M, p) ∧ 0 < M ∧ v' = some (N, K, M, 0)) ∨ (t = 1 ∧ vM v = 0 ∧ v' = v)
def aHere (v : vT) (t r : Int) : Prop := (t = 0 ∧ ∃ N K M p, v = some (N, K, M, p) ∧ p < M ∧ r = ((p + 1 : Nat) : Int)) ∨ (t = 1 ∧ vM v = 0)
def aAllow (a : aT) (v : vT) (t r : Int) : Prop := (t = 0 ∧ ∃ N K M p, ∃ k : Nat, v = some (N, K, M, p) ∧ p < M ∧ (eO a N K M)[p]? = some k ∧ r = ((bsum (fun e => decide (ktg (gtg (eg a N)) K k e ≠ 0)) 12 : Nat) : Int)) ∨ (t = 1 ∧ vM v = 0)
def aHome (a : aT) (v : vT) (t r : Int) : Prop := (t = 0 ∧ ∃ N K M p, ∃ k : Nat, v = some (N, K, M, p) ∧ p < M ∧ (eO a N K M)[p]? = some k ∧ mDist (gtg (eg a N)) K (sG a (aMem a none) (eg a N)) k r) ∨ (t = 1 ∧ vM v = 0)
theorem mDist_un {tg : Nat → Nat → Nat} {K G : Nat → Bool} {k : Nat} {v v' : Int} (h : mDist tg K G k v) (h' : mDist tg K G k v') : v = v' := by
  rcases h with ⟨h1, h2⟩ | ⟨d, h1, _, h3, h4⟩ <;> rcases h' with ⟨a1, a2⟩ | ⟨d', a1, _, a3, a4⟩
  · rw [h1, a1]
  · have := h2 d'; rw [a3] at this; cases this
  · have := a2 d; rw [h3] at this; cases this
  · have hd : d = d' := by
      rcases Nat.lt_trichotomy d d' with h | h | h
      · have := a4 d h; rw [h3] at this; cases this
      · exact h
      · have := h4 d' h; rw [a3] at this; cases this
    rw [h1, a1, hd]
theorem sT_un {g : gT} {K : Nat → Bool} {O : List Nat} {k e : Nat} {v v' : Int} (hn : O.Nodup) (h : sT g K O k e v) (h' : sT g K O k e v') : v = v' := by
  rcases h with ⟨h1, h2⟩ | ⟨h1, s, h2, h3⟩ <;> rcases h' with ⟨a1, a2⟩ | ⟨a1, s', a2, a3⟩
  · rw [h2, a2]
  · exact absurd h1 a1
  · exact absurd a1 h1
  · have := nodup_get hn h2 a2
    rw [h3, a3, this]
theorem vM_some {N : Nat} {K : Nat → Bool} {M p : Nat} : vM (some (N, K, M, p)) = M := rfl
theorem aSays_un {a : aT} {v : vT} {x y t r t' r' : Int} (h : aSays a v x y t r) (h' : aSays a v x y t' r') : t = t' ∧ (t = 0 → r = r') := by
  rcases h with ⟨h1, N, K, M, p, s, k, e, b1, b2, b3, b4, b5, b6, b7⟩ | ⟨h1, h2⟩ | ⟨h1, h2, h3⟩ <;> rcases h' with ⟨a1, N', K', M', p', s', k', e', c1, c2, c3, c4, c5, c6, c7⟩ | ⟨a1, a2⟩ | ⟨a1, a2, a3⟩
  · rw [b1] at c1
    cases c1
    have : s = s' := by omega
    subst this
    have : e = e' := by omega
    subst this
    rw [b6] at c6
    cases c6
    exact ⟨by omega, fun _ => by rw [b7, c7]⟩
  · rw [b1, vM_some] at a2; omega
  · rw [b1, vM_some] at a3; omega
  · rw [c1, vM_some] at h2; omega
  · exact ⟨by omega, fun _ => by omega⟩
  · omega
  · rw [c1, vM_some] at h3; omega
  · omega
  · exact ⟨by omega, fun _ => by omega⟩
theorem aLeads_un {a : aT} {v : vT} {x y t r t' r' : Int} (h : aLeads a v x y t r) (h' : aLeads a v x y t' r') : t = t' ∧ (t = 0 → r = r') := by
  rcases h with ⟨h1, N, K, M, p, s, k, e, b1, b2, b3, b4, b5, b6, b7⟩ | ⟨h1, h2⟩ | ⟨h1, h2, h3⟩ <;> rcases h' with ⟨a1, N', K', M', p', s', k', e', c1, c2, c3, c4, c5, c6, c7⟩ | ⟨a1, a2⟩ | ⟨a1, a2, a3⟩
  · rw [b1] at c1
    cases c1
    have : s = s' := by omega
    subst this
    have : e = e' := by omega
    subst this
    rw [b6] at c6
    cases c6
    exact ⟨by omega, fun _ => sT_un (oAt_nodup _ _ _) b7 c7⟩
  · rw [b1, vM_some] at a2; omega
  · rw [b1, vM_some] at a3; omega
  · rw [c1, vM_some] at h2; omega
  · exact ⟨by omega, fun _ => by omega⟩
  · omega
  · rw [c1, vM_some] at h3; omega
  · omega
  · exact ⟨by omega, fun _ => by omega⟩
theorem aPart_un {a : aT} {v : vT} {x y t r t' r' : Int} (h : aPart a v x y t r) (h' : aPart a v x y t' r') : t = t' ∧ (t = 0 → r = r') := by
  rcases h with ⟨h1, N, K, M, p, s, k, e, c, b1, b2, b3, b4, b5, b6, b7, b8⟩ | ⟨h1, h2⟩ | ⟨h1, h2, h3⟩ <;> rcases h' with ⟨a1, N', K', M', p', s', k', e', c', c1, c2, c3, c4, c5, c6, c7, c8⟩ | ⟨a1, a2⟩ | ⟨a1, a2, a3⟩
  · rw [b1] at c1
    cases c1
    have : s = s' := by omega
    subst this
    have : e = e' := by omega
    subst this
    rw [b6] at c6
    cases c6
    rw [b7] at c7
    cases c7
    exact ⟨by omega, fun _ => by rw [b8, c8]⟩
  · rw [b1, vM_some] at a2; omega
  · rw [b1, vM_some] at a3; omega
  · rw [c1, vM_some] at h2; omega
  · exact ⟨by omega, fun _ => by omega⟩
  · omega
  · rw [c1, vM_some] at h3; omega
  · omega
  · exact ⟨by omega, fun _ => by omega⟩
theorem aMany_un {v : vT} {x t r t' r' : Int} (h : aMany v x t r) (h' : aMany v x t' r') : t = t' ∧ (t = 0 → r = r') := by
  rcases h with ⟨h1, N, K, M, p, b1, b2⟩ | ⟨h1, h2⟩ | ⟨h1, h2, h3⟩ <;> rcases h' with ⟨a1, N', K', M', p', c1, c2⟩ | ⟨a1, a2⟩ | ⟨a1, a2, a3⟩
  · rw [b1] at c1
    cases c1
    exact ⟨by omega, fun _ => by omega⟩
  · omega
  · rw [b1] at a3; cases a3
  · omega
  · exact ⟨by omega, fun _ => by omega⟩
  · omega
  · rw [c1] at h3; cases h3
  · omega
  · exact ⟨by omega, fun _ => by omega⟩
theorem aWhy_un {a : aT} {v : vT} {t r t' r' : Int} (h : aWhy a v t r) (h' : aWhy a v t' r') : t = t' ∧ (t = 0 → r = r') := by
  rcases h with ⟨h1, N, K, M, p, b1, b2⟩ | ⟨h1, h2⟩ <;> rcases h' with ⟨a1, N', K', M', p', c1, c2⟩ | ⟨a1, a2⟩
  · rw [b1] at c1
    cases c1
    exact ⟨by omega, fun _ => sWl_un b2 c2⟩
  · rw [b1] at a2; cases a2
  · rw [c1] at h2; cases h2
  · exact ⟨by omega, fun _ => by omega⟩
theorem lost_un {K : Nat → Bool} {k j : Nat} (h2 : K k = false) (h3 : ∀ j, j < k → K j = true) (a2 : K j = false) (a3 : ∀ i, i < j → K i = true) : k = j := by
  rcases Nat.lt_trichotomy k j with h | h | h
  · have := a3 k h; rw [h2] at this; cases this
  · exact h
  · have := h3 j h; rw [a2] at this; cases this
theorem sWl_len {g : gT} {K : Nat → Bool} {w : Int} {k : Nat} (h : sWl g K w) (h1 : k < g.1.length) (h2 : K k = false) (h3 : ∀ j, j < k → K j = true) : w = ((wB (fb g) 200 k).length : Int) := sWl_un h (Or.inr ⟨k, h1, h2, h3, rfl⟩)
theorem aWhyE_un {a : aT} {v : vT} {x t r t' r' : Int} (h : aWhyE a v x t r) (h' : aWhyE a v x t' r') : t = t' ∧ (t = 0 → r = r') := by
  rcases h with ⟨h1, N, K, M, p, k, i, b1, b2, b3, b4, b5, b6, y, b7, b8⟩ | ⟨h1, h2⟩ | ⟨h1, N, K, M, p, b1, w, b2, b3⟩ <;> rcases h' with ⟨a1, N', K', M', p', k', i', c1, c2, c3, c4, c5, c6, y', c7, c8⟩ | ⟨a1, a2⟩ | ⟨a1, N', K', M', p', c1, w', c2, c3⟩
  · rw [b1] at c1
    cases c1
    have := lost_un b4 b5 c4 c5
    subst this
    have : i = i' := by omega
    subst this
    rw [b7] at c7
    cases c7
    exact ⟨by omega, fun _ => by omega⟩
  · rw [b1] at a2; cases a2
  · rw [b1] at c1
    cases c1
    have := sWl_len c2 b3 b4 b5
    omega
  · rw [c1] at h2; cases h2
  · exact ⟨by omega, fun _ => by omega⟩
  · rw [c1] at h2; cases h2
  · rw [b1] at c1
    cases c1
    have := sWl_len b2 c3 c4 c5
    omega
  · rw [b1] at a2; cases a2
  · exact ⟨by omega, fun _ => by omega⟩
theorem aAct_un {a : aT} {v v1 v2 : vT} {y t r t' r' : Int} (h : aAct a v y t r v1) (h' : aAct a v y t' r' v2) : t = t' ∧ (t = 0 → r = r') ∧ v1 = v2 := by
  rcases h with ⟨h1, N, K, M, p, k, e, b1, b2, b3, b4, b5, b6⟩ | ⟨h1, h2, h3⟩ | ⟨h1, h2, h3, h4⟩ <;> rcases h' with ⟨a1, N', K', M', p', k', e', c1, c2, c3, c4, c5, c6⟩ | ⟨a1, a2, a3⟩ | ⟨a1, a2, a3, a4⟩
  · rw [b1] at c1
    cases c1
    have : e = e' := by omega
    subst this
    rw [b5] at c5
    cases c5
    refine ⟨by omega, ?_⟩
    rcases b6 with ⟨d1, d2, q, d3, d4, d5⟩ | ⟨d1, d2, d3, d4⟩ | ⟨d1, d2, d3, d4⟩ <;> rcases c6 with ⟨e1, e2, q', e3, e4, e5⟩ | ⟨e1, e2, e3, e4⟩ | ⟨e1, e2, e3, e4⟩
    · have := nodup_get (oAt_nodup _ _ _) d4 e4
      subst this
      exact ⟨fun _ => by omega, by rw [d5, e5]⟩
    · exact absurd e2 d2
    · exact absurd e2 d2
    · exact absurd d2 e2
    · exact ⟨fun _ => by omega, by rw [d4, e4]⟩
    · rw [d3] at e3; cases e3
    · exact absurd d2 e2
    · rw [d3] at e3; cases e3
    · exact ⟨fun _ => by omega, by rw [d4, e4]⟩
  · rw [b1, vM_some] at a2; omega
  · clear b6; omega
  · rw [c1, vM_some] at h2; clear c6; omega
  · exact ⟨by omega, fun _ => by omega, by rw [h3, a3]⟩
  · omega
  · clear c6; omega
  · omega
  · exact ⟨by omega, fun _ => by omega, by rw [h4, a4]⟩
theorem aReset_un {v v1 v2 : vT} {t t' : Int} (h : aReset v t v1) (h' : aReset v t' v2) : t = t' ∧ v1 = v2 := by
  rcases h with ⟨h1, N, K, M, p, b1, b2, b3⟩ | ⟨h1, h2, h3⟩ <;> rcases h' with ⟨a1, N', K', M', p', c1, c2, c3⟩ | ⟨a1, a2, a3⟩
  · rw [b1] at c1
    cases c1
    exact ⟨by omega, by rw [b3, c3]⟩
  · rw [b1, vM_some] at a2; omega
  · rw [c1, vM_some] at h2; omega
  · exact ⟨by omega, by rw [h3, a3]⟩
theorem aHere_un {v : vT} {t r t' r' : Int} (h : aHere v t r) (h' : aHere v t' r') : t = t' ∧ (t = 0 → r = r') := by
  rcases h with ⟨h1, N, K, M, p, b1, b2, b3⟩ | ⟨h1, h2⟩ <;> rcases h' with ⟨a1, N', K', M', p', c1, c2, c3⟩ | ⟨a1, a2⟩
  · rw [b1] at c1
    cases c1
    exact ⟨by omega, fun _ => by rw [b3, c3]⟩
  · rw [b1, vM_some] at a2; omega
  · rw [c1, vM_some] at h2; omega
  · exact ⟨by omega, fun _ => by omega⟩
theorem aAllow_un {a : aT} {v : vT} {t r t' r' : Int} (h : aAllow a v t r) (h' : aAllow a v t' r') : t = t' ∧ (t = 0 → r = r') := by
  rcases h with ⟨h1, N, K, M, p, k, b1, b2, b3, b4⟩ | ⟨h1, h2⟩ <;> rcases h' with ⟨a1, N', K', M', p', k', c1, c2, c3, c4⟩ | ⟨a1, a2⟩
  · rw [b1] at c1
    cases c1
    rw [b3] at c3
    cases c3
    exact ⟨by omega, fun _ => by rw [b4, c4]⟩
  · rw [b1, vM_some] at a2; omega
  · rw [c1, vM_some] at h2; omega
  · exact ⟨by omega, fun _ => by omega⟩
theorem aHome_un {a : aT} {v : vT} {t r t' r' : Int} (h : aHome a v t r) (h' : aHome a v t' r') : t = t' ∧ (t = 0 → r = r') := by
  rcases h with ⟨h1, N, K, M, p, k, b1, b2, b3, b4⟩ | ⟨h1, h2⟩ <;> rcases h' with ⟨a1, N', K', M', p', k', c1, c2, c3, c4⟩ | ⟨a1, a2⟩
  · rw [b1] at c1
    cases c1
    rw [b3] at c3
    cases c3
    exact ⟨by omega, fun _ => mDist_un b4 c4⟩
  · rw [b1, vM_some] at a2; omega
  · rw [c1, vM_some] at h2; omega
  · exact ⟨by omega, fun _ => by omega⟩
theorem rWor_18 {a : aT} {v : vT} {μ : zM} (h : rWor a v μ) : μ 51 18 = (vM v : Int) ∧ vM v ≤ 200 := by
  rcases h.2.2 with ⟨h1, h2⟩ | ⟨N, K, M, p, h1, h2, h3, h4, _⟩
  · rw [h1]; exact ⟨h2.2, by simp [vM]⟩
  · rw [h1, vM_some, h4.1]
    have h9 : (eO a N K M).length = M := h2.2.2.2.2.1.1
    have h8 := h2.2.1.2
    have h7 := h2.2.2.2.2.2.1
    exact ⟨by rw [h9], by omega⟩
theorem rWor_17 {a : aT} {v : vT} {μ : zM} (h : rWor a v μ) : μ 51 17 = zB (!decide (v = none)) := by
  rcases h.2.2 with ⟨h1, h2⟩ | ⟨N, K, M, p, h1, h2, h3, h4, _⟩
  · rw [h1]; exact h2.1
  · rw [h1, h3]; simp [zB]
theorem rWor_get {a : aT} {v : vT} {μ : zM} (h : rWor a v μ) (hM : vM v ≠ 0) : ∃ N K M p, ∃ k : Nat, v = some (N, K, M, p) ∧ vM v = M ∧ sMath a (aMem a none) N K M ∧ rO N (eO a N K M) μ ∧ rGr a (aMem a none) 0 N μ ∧ rBd 0 N K μ ∧ rT N (gtg (eg a N)) (sU a (eg a N)) (sC a) (sG a (aMem a none) (eg a N)) 0 μ ∧ (eO a N K M).length = M ∧ p < M ∧ (eO a N K M)[p]? = some k ∧ k < N ∧ μ 51 28 = (k : Int) := by
  rcases h.2.2 with ⟨h1, h2⟩ | ⟨N, K, M, p, h1, h2, h3, h4, h5, h6, h7, h8, h9⟩
  · rw [h1] at hM; exact absurd rfl hM
  · rw [h1, vM_some] at hM
    obtain ⟨a1, k, a2, a3⟩ := h9 (by omega)
    exact ⟨N, K, M, p, k, h1, by rw [h1, vM_some], h2, h4, h5, h6, rGr_T h.1 h.2.1 h2.1 h2.2.1.2 h5, h2.2.2.2.2.1.1, a1, a2, (h4.2.2.1 p k a2).1, a3⟩
theorem oTgt {tg : Nat → Nat → Nat} {K : Nat → Bool} {M s k e : Nat} (hF : oFin tg K M) (hk : (oAt tg K (12 * M))[s]? = some k) (he : e < 12) (h0 : ktg tg K k e ≠ 0) : ∃ s', s' < M ∧ (oAt tg K (12 * M))[s']? = some (ktg tg K k e - 1) := by
  have hs : s < M := by
    have := (List.getElem?_eq_some_iff.mp hk).1
    have := hF.1
    omega
  have h1 := hF.2 s hs
  have h2 : (oAt tg K (12 * s))[s]? = some _ := List.getElem?_eq_getElem h1
  have h3 := oAt_get (show 12 * s ≤ 12 * M by omega) h2
  rw [hk] at h3
  rw [← h3] at h2
  have h4 := oAt_get (show 12 * s ≤ 12 * s + e by omega) h2
  have h5 := oAt_next he h4
  rw [if_neg h0] at h5
  have h6 : ktg tg K k e - 1 ∈ oAt tg K (12 * s + (e + 1)) := by
    rw [h5]
    unfold oIns
    split
    · assumption
    · simp
  obtain ⟨s', h7⟩ := List.getElem?_of_mem h6
  have h8 := oAt_get (show 12 * s + (e + 1) ≤ 12 * M by omega) h7
  have := (List.getElem?_eq_some_iff.mp h8).1
  have := hF.1
  exact ⟨s', by omega, h8⟩
theorem ktg_sU {a : aT} {mem : Nat → Bool} {N : Nat} {K : Nat → Bool} {M k e : Nat} (h : sMath a mem N K M) (hk : k < N) (he : e < 12) (h0 : sU a (sg a mem N) k e = false) : ktg (gtg (sg a mem N)) K k e = 0 := by
  by_cases h1 : ktg (gtg (sg a mem N)) K k e = 0
  · exact h1
  · obtain ⟨c, d, h2, h3, _⟩ := sMath_tg h hk he h1
    unfold sU at h0
    rw [getD_of h2] at h0
    unfold nxtA at h3
    rw [h0] at h3
    cases h3
