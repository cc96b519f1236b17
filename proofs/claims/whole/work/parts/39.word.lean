/-! the supervisors' places -/
theorem zSl0 {j : Nat} (h : j < 3) : 33 + 6 * j < zN := by unfold zN; omega
theorem zSl1 {j : Nat} (h : j < 3) : 34 + 6 * j < zN := by unfold zN; omega
theorem zSl2 {j : Nat} (h : j < 3) : 35 + 6 * j < zN := by unfold zN; omega
theorem zSl3 {j : Nat} (h : j < 3) : 36 + 6 * j < zN := by unfold zN; omega
theorem zSl4 {j : Nat} (h : j < 3) : 37 + 6 * j < zN := by unfold zN; omega
theorem zSl5 {j : Nat} (h : j < 3) : 38 + 6 * j < zN := by unfold zN; omega
theorem zSk0 {j : Nat} (h : j < 3) : zK (33 + 6 * j) = .inr 4 := by
  have : ∀ j, j < 3 → zK (33 + 6 * j) = .inr 4 := by decide
  exact this j h
theorem zSk1 {j : Nat} (h : j < 3) : zK (34 + 6 * j) = .inl (0, 201) := by
  have : ∀ j, j < 3 → zK (34 + 6 * j) = .inl (0, 201) := by decide
  exact this j h
theorem zSk2 {j : Nat} (h : j < 3) : zK (35 + 6 * j) = .inl (0, 201) := by
  have : ∀ j, j < 3 → zK (35 + 6 * j) = .inl (0, 201) := by decide
  exact this j h
theorem zSk3 {j : Nat} (h : j < 3) : zK (36 + 6 * j) = .inl (0, 201) := by
  have : ∀ j, j < 3 → zK (36 + 6 * j) = .inl (0, 201) := by decide
  exact this j h
theorem zSk4 {j : Nat} (h : j < 3) : zK (37 + 6 * j) = .inl (0, 201) := by
  have : ∀ j, j < 3 → zK (37 + 6 * j) = .inl (0, 201) := by decide
  exact this j h
theorem zSk5 {j : Nat} (h : j < 3) : zK (38 + 6 * j) = .inl (0, 2412) := by
  have : ∀ j, j < 3 → zK (38 + 6 * j) = .inl (0, 2412) := by decide
  exact this j h
theorem zSr4 {j : Nat} (h : j < 3) : zR (33 + 6 * j) 4 = 34 + 6 * j := by
  have : ∀ j, j < 3 → zR (33 + 6 * j) 4 = 34 + 6 * j := by decide
  exact this j h
theorem zSr5 {j : Nat} (h : j < 3) : zR (33 + 6 * j) 5 = 35 + 6 * j := by
  have : ∀ j, j < 3 → zR (33 + 6 * j) 5 = 35 + 6 * j := by decide
  exact this j h
theorem zSr6 {j : Nat} (h : j < 3) : zR (33 + 6 * j) 6 = 36 + 6 * j := by
  have : ∀ j, j < 3 → zR (33 + 6 * j) 6 = 36 + 6 * j := by decide
  exact this j h
theorem zSr7 {j : Nat} (h : j < 3) : zR (33 + 6 * j) 7 = 37 + 6 * j := by
  have : ∀ j, j < 3 → zR (33 + 6 * j) 7 = 37 + 6 * j := by decide
  exact this j h
theorem zSr8 {j : Nat} (h : j < 3) : zR (33 + 6 * j) 8 = 38 + 6 * j := by
  have : ∀ j, j < 3 → zR (33 + 6 * j) 8 = 38 + 6 * j := by decide
  exact this j h
/-! words -/
def fb (g : gT) (k : Nat) : Nat := g.2.2.getD k 0
/-- the word by which a node was found, backwards -/
def wB (f : Nat → Nat) : Nat → Nat → List Nat
  | 0, _ => []
  | d + 1, k => if k = 0 then [] else f k % 12 :: wB f d (f k / 12 - 1)
def gFb (g : gT) : Prop := ∀ k, 1 ≤ k → k < g.1.length → 12 ≤ fb g k ∧ fb g k / 12 ≤ k
theorem fb_eq {g : gT} {μ : zM} (h : gRep g μ) {k : Nat} (hk : k < g.1.length) : μ 21 (k + 1) = (fb g k : Int) := by
  have h1 : g.2.2[k]? = some (fb g k) := by
    have : k < g.2.2.length := by rw [h.2.2.1]; exact hk
    rw [List.getElem?_eq_getElem this]
    simp [fb, this]
  exact h.2.2.2 k _ h1
theorem gAt_fbl (nxt : Nat → Nat → Option Nat) (c0 : Nat) : ∀ t, (gAt nxt c0 t).2.2.length = (gAt nxt c0 t).1.length
  | 0 => rfl
  | t + 1 => by
    have ih := gAt_fbl nxt c0 t
    simp only [gAt]
    unfold gStep
    split
    · exact ih
    · split
      · exact ih
      · split
        · exact ih
        · simp [ih]
theorem gAt_fb (nxt : Nat → Nat → Option Nat) (c0 : Nat) : ∀ t, gFb (gAt nxt c0 t)
  | 0 => fun k h1 h2 => by
    simp only [gAt, List.length_cons, List.length_nil] at h2
    omega
  | t + 1 => by
    have ih := gAt_fb nxt c0 t
    have hl := gAt_fbl nxt c0 t
    simp only [gAt]
    unfold gStep
    split
    · exact ih
    · next c hc =>
      split
      · exact ih
      · split
        · exact ih
        · intro k h1 h2
          have hlt := (List.getElem?_eq_some_iff.mp hc).1
          simp only [List.length_append, List.length_cons, List.length_nil] at h2
          by_cases hk : k < (gAt nxt c0 t).1.length
          · have := ih k h1 hk
            unfold fb at this ⊢
            simp only [List.getD_eq_getElem?_getD] at this ⊢
            rw [List.getElem?_append_left (by omega)]
            exact this
          · have hkl : k = (gAt nxt c0 t).2.2.length := by omega
            unfold fb
            simp only [List.getD_eq_getElem?_getD, hkl, List.getElem?_concat_length, Option.getD_some]
            omega
/-- the word of the first lost node, as it is written: its length (-1: none), its events backwards -/
def sWd (g : gT) (K : Nat → Bool) (v : Int) (f : Nat → Int) : Prop := (v = -1 ∧ ∀ k, k < g.1.length → K k = true) ∨ ∃ k, k < g.1.length ∧ K k = false ∧ (∀ j, j < k → K j = true) ∧ v = ((wB (fb g) 200 k).length : Int) ∧ ∀ (i y : Nat), (wB (fb g) 200 k)[i]? = some y → f i = (y : Int)
theorem pre_add {l : List Nat} {x : Nat} {f f' : Nat → Int} (h : ∀ (i y : Nat), l[i]? = some y → f i = (y : Int)) (hf : ∀ i, f' i = if i = l.length then (x : Int) else f i) : ∀ (i y : Nat), (l ++ [x])[i]? = some y → f' i = (y : Int) := by
  intro i y hi
  rw [hf]
  by_cases hl : i < l.length
  · rw [List.getElem?_append_left hl] at hi
    rw [if_neg (by omega)]
    exact h i y hi
  · have hi1 := (List.getElem?_eq_some_iff.mp hi).1
    simp only [List.length_append, List.length_cons, List.length_nil] at hi1
    have : i = l.length := by omega
    subst this
    simp only [List.getElem?_concat_length, Option.some.injEq] at hi
    rw [if_pos rfl, hi]
set_option maxRecDepth 100000 in
set_option maxHeartbeats 4000000 in
theorem m_Y_firstLost (l : Launch) (μ : zM) {g : gT} {K : Nat → Bool} (hG : gRep g μ) (hK : ∀ k, k < g.1.length → μ 19 (k + 1) = zB (K k)) :
    zC l y_Y_firstLost b_Y_firstLost 2 (some .int) [] 0 0 0 true [zp 26] μ (zRi (fun r μ' => μ' = μ ∧ ((r = 0 ∧ ∀ k, k < g.1.length → K k = true) ∨ ∃ k, k < g.1.length ∧ r = ((k + 1 : Nat) : Int) ∧ K k = false ∧ ∀ j, j < k → K j = true))) := by
  refine zC.of (own := n_Y) (L := [some (zp 26), none]) (by decide) rfl (by simp [zcat]) (Nat.le_of_ble_eq_true rfl) rfl (fun Γ => ?_)
  have hn := hG.1.2.1
  refine zU_iconst d_Y_firstLost_0 ?_
  refine zU_istore_n d_Y_firstLost_1 (by decide) ?_
  refine zU.eqL (L' := [some (zp 26), some (zi 1)]) rfl ?_
  have hJ2 : ∀ (d : Nat) (k : Nat), k + d = g.1.length → (∀ j, j < k → K j = true) → zU Γ b_Y_firstLost n_Y 2 (some .int) [] (zRm 0 0 0) 0 0 (zFin Γ 0 true (zRi (fun r μ' => μ' = μ ∧ ((r = 0 ∧ ∀ k, k < g.1.length → K k = true) ∨ ∃ k, k < g.1.length ∧ r = ((k + 1 : Nat) : Int) ∧ K k = false ∧ ∀ j, j < k → K j = true)))) true 0 μ 2 [some (zp 26), some (zi ((k + 1 : Nat) : Int))] [] := by
    intro d
    induction d using Nat.strongRecOn with
    | _ d ih2 =>
      intro k hd hj
      refine zU_iload_n d_Y_firstLost_2 rfl ?_
      refine zU_aload_n d_Y_firstLost_3 rfl ?_
      refine zU_getR 15 d_Y_firstLost_4 f_Y_25 (by decide) rfl rfl rfl ?_
      refine zU_getI (v := (g.1.length : Int)) d_Y_firstLost_7 f_Y_36 (by decide) rfl rfl (hG.1.1) ?_
      refine zU_icmp_gt 33 d_Y_firstLost_10 (by decide) (by omega) (by omega) (fun h10 => ?_) (fun h10 => ?_)
      · refine zU_iconst d_Y_firstLost_33 ?_
        exact zU_ireturn d_Y_firstLost_34 (Or.inl rfl) (by decide) (by decide) (⟨_, rfl, rfl, Or.inl ⟨rfl, fun i hi => hj i (by omega)⟩⟩)
      · refine zU_aload_n d_Y_firstLost_13 rfl ?_
        refine zU_getR 15 d_Y_firstLost_14 f_Y_25 (by decide) rfl rfl rfl ?_
        refine zU_getR 19 d_Y_firstLost_17 f_Y_85 (by decide) rfl rfl rfl ?_
        refine zU_iload_n d_Y_firstLost_20 rfl ?_
        refine zU_zald (v := zB (K k)) d_Y_firstLost_21 (by decide) rfl (by decide) (by omega) (hK k (by omega)) ?_
        refine zU_if_ne 27 d_Y_firstLost_22 (by decide) (zBr _) (fun h22 => ?_) (fun h22 => ?_)
        · refine zU_iinc d_Y_firstLost_27 rfl ?_
          refine zU.eqL (L' := [some (zp 26), some (zi (((k + 1 + 1 : Nat) : Int)))]) (by first | rfl | exact congrArg (fun zz : Int => [some (zp 26), some (zi zz)]) (show (((k + 1 : Nat) : Int) + 1 : Int) = ((k + 1 + 1 : Nat) : Int) by omega)) ?_
          refine zU_goto 2 d_Y_firstLost_30 (by decide) ?_
          exact ih2 (d - 1) (by omega) (k + 1) (by omega) (fun j hj' => by by_cases h : j = k; { rw [h]; exact zB_nz.mp h22 }; { exact hj j (by omega) })
        · refine zU_iload_n d_Y_firstLost_25 rfl ?_
          exact zU_ireturn d_Y_firstLost_26 (Or.inl rfl) (by decide) (by decide) (⟨_, rfl, rfl, Or.inr ⟨k, by omega, rfl, zB_zero.mp h22, hj⟩⟩)
  exact hJ2 g.1.length 0 (by omega) (fun j hj => absurd hj (by omega))
set_option maxRecDepth 100000 in
set_option maxHeartbeats 4000000 in
theorem m_Y_writeWord (l : Launch) (μ : zM) {g : gT} {K : Nat → Bool} (hG : gRep g μ) (hK : ∀ k, k < g.1.length → μ 19 (k + 1) = zB (K k)) (hF : gFb g) {j : Nat} (h_j : j < 3) :
    zC l y_Y_writeWord b_Y_writeWord 4 none [] 1 0 21 false [zp 26, zp (33 + 6 * j)] μ (zRv (fun μ' => sWd g K (μ' (33 + 6 * j) 3) (μ' (34 + 6 * j)) ∧ (∀ i, i ≠ 3 → μ' (33 + 6 * j) i = μ (33 + 6 * j) i) ∧ ∀ q, q ≠ 33 + 6 * j → q ≠ 34 + 6 * j → μ' q = μ q)) := by
  refine zC.of (own := n_Y) (L := [some (zp 26), some (zp (33 + 6 * j)), none, none]) (by decide) rfl (by simp [zcat]) (Nat.le_of_ble_eq_true rfl) rfl (fun Γ => ?_)
  have hn := hG.1.2.1
  refine zU_aload_n d_Y_writeWord_0 rfl ?_
  refine zU_callVi (p0 := 26) [] d_Y_writeWord_1 k_Y_126 rfl (by decide) rfl rfl (by decide) (Nat.le_of_ble_eq_true rfl) (fun l => m_Y_firstLost l μ hG hK) (fun r1 μ1 h1 => ?_)
  obtain ⟨hμ1, h1⟩ := h1
  replace hμ1 := hμ1.symm
  subst hμ1
  have hr1 : 0 ≤ r1 ∧ r1 ≤ 200 := by rcases h1 with ⟨h, -⟩ | ⟨k, hk, h, -⟩ <;> omega
  refine zU_istore_n d_Y_writeWord_4 (by decide) ?_
  refine zU.eqL (L' := [some (zp 26), some (zp (33 + 6 * j)), some (zi (r1)), none]) rfl ?_
  refine zU_iload_n d_Y_writeWord_5 rfl ?_
  refine zU_if_ne 15 d_Y_writeWord_6 (by decide) (by omega) (fun h6 => ?_) (fun h6 => ?_)
  · obtain ⟨k0, hk0, hrk0, hKk, hKj⟩ : ∃ k, k < g.1.length ∧ r1 = ((k + 1 : Nat) : Int) ∧ K k = false ∧ ∀ j, j < k → K j = true := by
      rcases h1 with ⟨h, -⟩ | h
      · exact absurd h h6
      · exact h
    subst hrk0
    refine zU.eqL (L' := [some (zp 26), some (zp (33 + 6 * j)), some (zi ((k0 + 1 : Nat) : Int)), none]) (rfl) ?_
    refine zU_iconst d_Y_writeWord_15 ?_
    refine zU_istore_n d_Y_writeWord_16 (by decide) ?_
    refine zU.eqL (L' := [some (zp 26), some (zp (33 + 6 * j)), some (zi ((k0 + 1 : Nat) : Int)), some (zi 0)]) rfl ?_
    have hJ17 : ∀ (d : Nat) (n k : Nat) (μ1 : zM) (w : List Nat), n + d = 200 → k < g.1.length → wB (fb g) 200 k0 = w ++ wB (fb g) d k → w.length = n → (∀ (i y : Nat), w[i]? = some y → μ1 (34 + 6 * j) i = (y : Int)) → (∀ q, q ≠ 34 + 6 * j → μ1 q = μ q) → zU Γ b_Y_writeWord n_Y 4 none [] (zRm 1 0 21) 0 0 (zFin Γ 0 false (zRv (fun μ' => sWd g K (μ' (33 + 6 * j) 3) (μ' (34 + 6 * j)) ∧ (∀ i, i ≠ 3 → μ' (33 + 6 * j) i = μ (33 + 6 * j) i) ∧ ∀ q, q ≠ 33 + 6 * j → q ≠ 34 + 6 * j → μ' q = μ q))) false 0 μ1 17 [some (zp 26), some (zp (33 + 6 * j)), some (zi ((k + 1 : Nat) : Int)), some (zi (n : Int))] [] := by
      intro d
      induction d using Nat.strongRecOn with
      | _ d ih17 =>
        intro n k μ1 w hd hk hw hwl hwv hq
        refine zU_iload_n d_Y_writeWord_17 rfl ?_
        refine zU_iconst d_Y_writeWord_18 ?_
        refine zU_icmp_le 66 d_Y_writeWord_19 (by decide) (by omega) (by omega) (fun h19 => ?_) (fun h19 => ?_)
        · refine zU_aload_n d_Y_writeWord_66 rfl ?_
          refine zU_iload_n d_Y_writeWord_67 rfl ?_
          refine zU_putI d_Y_writeWord_68 f_Y_129 p_S_wordLength (zSl0 h_j) (zSk0 h_j) rfl (Or.inl rfl) ?_
          exact zU_return d_Y_writeWord_71 rfl (by decide) (by decide) (⟨rfl, Or.inr ⟨k0, hk0, hKk, hKj, by have hw0 : wB (fb g) d k = [] := (by cases d; rfl; simp only [wB]; rw [if_pos (by omega)]); rw [hw0, List.append_nil] at hw; rw [hw, hwl, zup_at]; simp, by have hw0 : wB (fb g) d k = [] := (by cases d; rfl; simp only [wB]; rw [if_pos (by omega)]); rw [hw0, List.append_nil] at hw; rw [hw, zup_ne _ _ _ (by omega)]; exact hwv⟩, fun i hi => by rw [zup_at]; simp [hi]; rw [hq _ (by omega)], fun q q1 q2 => by rw [zup_ne _ _ _ q1]; exact hq q q2⟩)
        · refine zU_iload_n d_Y_writeWord_22 rfl ?_
          refine zU_sipush d_Y_writeWord_23 (by decide) ?_
          refine zU_icmp_ge 66 d_Y_writeWord_26 (by decide) (by omega) (by omega) (fun h26 => ?_) (fun h26 => ?_)
          · refine zU_aload_n d_Y_writeWord_66 rfl ?_
            refine zU_iload_n d_Y_writeWord_67 rfl ?_
            refine zU_putI d_Y_writeWord_68 f_Y_129 p_S_wordLength (zSl0 h_j) (zSk0 h_j) rfl (Or.inl rfl) ?_
            exact zU_return d_Y_writeWord_71 rfl (by decide) (by decide) (⟨rfl, Or.inr ⟨k0, hk0, hKk, hKj, by have hw0 : wB (fb g) d k = [] := (by cases d; rfl; simp only [wB]; rw [if_pos (by omega)]); rw [hw0, List.append_nil] at hw; rw [hw, hwl, zup_at]; simp, by have hw0 : wB (fb g) d k = [] := (by cases d; rfl; simp only [wB]; rw [if_pos (by omega)]); rw [hw0, List.append_nil] at hw; rw [hw, zup_ne _ _ _ (by omega)]; exact hwv⟩, fun i hi => by rw [zup_at]; simp [hi]; rw [hq _ (by omega)], fun q q1 q2 => by rw [zup_ne _ _ _ q1]; exact hq q q2⟩)
          · obtain ⟨d, rfl⟩ : ∃ d', d = d' + 1 := ⟨d - 1, by omega⟩
            have hf := hF k (by omega) hk
            have hfx : μ1 21 (k + 1) = ((fb g k : Nat) : Int) := by rw [hq 21 (by omega)]; exact fb_eq hG hk
            obtain ⟨x, hxe⟩ : ∃ x, x = fb g k := ⟨_, rfl⟩
            rw [← hxe] at hf hfx
            refine zU_aload_n d_Y_writeWord_29 rfl ?_
            refine zU_getR (34 + 6 * j) d_Y_writeWord_30 f_Y_132 (zSl0 h_j) (zSk0 h_j) rfl (zSr4 h_j) ?_
            refine zU_iload_n d_Y_writeWord_33 rfl ?_
            refine zU_aload_n d_Y_writeWord_34 rfl ?_
            refine zU_getR 15 d_Y_writeWord_35 f_Y_25 (by decide) rfl rfl rfl ?_
            refine zU_getR 21 d_Y_writeWord_38 f_Y_135 (by decide) rfl rfl rfl ?_
            refine zU_iload_n d_Y_writeWord_41 rfl ?_
            refine zU_iald (v := ((x : Nat) : Int)) d_Y_writeWord_42 (by decide) rfl (by decide) (by omega) (hfx) ?_
            refine zU_bipush d_Y_writeWord_43 (by decide) ?_
            refine zU_irem d_Y_writeWord_45 (by omega) (by omega) ?_
            refine zU_iast d_Y_writeWord_46 (zSl1 h_j) (zSk1 h_j) (by decide) (by omega) ?_
            refine zU.eqM (μ' := zup μ1 (34 + 6 * j) n ((x % 12 : Nat) : Int)) rfl ?_
            refine zU_aload_n d_Y_writeWord_47 rfl ?_
            refine zU_getR 15 d_Y_writeWord_48 f_Y_25 (by decide) rfl rfl rfl ?_
            refine zU_getR 21 d_Y_writeWord_51 f_Y_135 (by decide) rfl rfl rfl ?_
            refine zU_iload_n d_Y_writeWord_54 rfl ?_
            refine zU_iald (v := ((x : Nat) : Int)) d_Y_writeWord_55 (by decide) rfl (by decide) (by omega) (by rw [zup_ne _ _ _ (by omega)]; exact hfx) ?_
            refine zU_bipush d_Y_writeWord_56 (by decide) ?_
            refine zU_idiv d_Y_writeWord_58 (by omega) (by omega) ?_
            refine zU_istore_n d_Y_writeWord_59 (by decide) ?_
            refine zU.eqL (L' := [some (zp 26), some (zp (33 + 6 * j)), some (zi ((((x : Nat) : Int)) / 12)), some (zi (n : Int))]) rfl ?_
            refine zU.eqL (L' := [some (zp 26), some (zp (33 + 6 * j)), some (zi ((x / 12 - 1 + 1 : Nat) : Int)), some (zi (n : Int))]) (congrArg (fun zz : Int => [some (zp 26), some (zp (33 + 6 * j)), some (zi zz), some (zi (n : Int))]) (show ((x : Int) / 12) = ((x / 12 - 1 + 1 : Nat) : Int) by omega)) ?_
            refine zU_iinc d_Y_writeWord_60 rfl ?_
            refine zU.eqL (L' := [some (zp 26), some (zp (33 + 6 * j)), some (zi ((x / 12 - 1 + 1 : Nat) : Int)), some (zi (((n + 1 : Nat) : Int)))]) (by first | rfl | exact congrArg (fun zz : Int => [some (zp 26), some (zp (33 + 6 * j)), some (zi ((x / 12 - 1 + 1 : Nat) : Int)), some (zi zz)]) (show ((n : Int) + 1 : Int) = ((n + 1 : Nat) : Int) by omega)) ?_
            refine zU_goto 17 d_Y_writeWord_63 (by decide) ?_
            exact ih17 d (by omega) (n + 1) (x / 12 - 1) _ (w ++ [x % 12]) (by omega) (by omega) (by rw [hw]; simp only [wB]; rw [if_neg (by omega), ← hxe]; simp) (by simp [hwl]) (pre_add hwv (fun i => by rw [zup_at, hwl]; by_cases h : i = n <;> simp [h])) (fun q q1 => by rw [zup_ne _ _ _ q1]; exact hq q q1)
    refine zU.loose ?_
    exact hJ17 200 0 k0 μ [] (by omega) hk0 rfl rfl (fun i y h => by simp at h) (fun _ _ => rfl)
  · refine zU_aload_n d_Y_writeWord_9 rfl ?_
    refine zU_iconst d_Y_writeWord_10 ?_
    refine zU_putI d_Y_writeWord_11 f_Y_129 p_S_wordLength (zSl0 h_j) (zSk0 h_j) rfl (Or.inl rfl) ?_
    exact zU_return d_Y_writeWord_14 rfl (by decide) (by decide) (⟨rfl, Or.inl ⟨by rw [zup_at]; simp, by rcases h1 with ⟨-, h⟩ | ⟨k, -, h, -⟩; exact h; exact absurd h6 (by omega)⟩, fun i hi => by rw [zup_at]; simp [hi], fun q q1 _ => by rw [zup_ne _ _ _ q1]⟩)
