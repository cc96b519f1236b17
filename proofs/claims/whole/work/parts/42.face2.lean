/-! the class as a whole: automata a, result v (nodes, kept ones, states, the place) -/
def aMem (a : aT) (r : Option Nat) (i : Nat) : Bool := decide (i < aN a) && (match r with | none => true | some x => aP a i || decide (i = x))
abbrev vT : Type := Option (Nat × (Nat → Bool) × Nat × Nat)
def vM (v : vT) : Nat := match v with
  | none => 0
  | some (_, _, M, _) => M
abbrev eg (a : aT) (N : Nat) : gT := sg a (aMem a none) N
abbrev eO (a : aT) (N : Nat) (K : Nat → Bool) (M : Nat) : List Nat := oAt (gtg (eg a N)) K (12 * M)
def cVal (a : aT) (v : vT) (μ : zM) : Prop := (v = none ∧ μ 0 6 = 0) ∨ ∃ N K M x, v = some (N, K, M, x) ∧ μ 0 6 = 1 ∧ sMath a (aMem a none) N K M ∧ sSup a (aMem a none) N K M 0 μ ∧ (0 < M → x < M ∧ μ 0 7 = ((x + 1 : Nat) : Int))
def cWor (a : aT) (v : vT) (μ : zM) : Prop := aOk a ∧ cRep a μ ∧ (∃ L, gBase L μ) ∧ (0 ≤ μ 33 0 ∧ μ 33 0 ≤ 200) ∧ cVal a v μ
theorem cWor_6 {a : aT} {v : vT} {μ : zM} (h : cWor a v μ) : μ 0 6 = 0 ∨ μ 0 6 = 1 := by
  rcases h.2.2.2.2 with ⟨-, h⟩ | ⟨_, _, _, _, -, h, -⟩ <;> omega
theorem cWor_33 {a : aT} {v : vT} {μ : zM} (h : cWor a v μ) : -2147483648 ≤ μ 33 0 ∧ μ 33 0 ≤ 2147483647 := by
  have := h.2.2.2.1
  omega
theorem cWor_get {a : aT} {v : vT} {μ : zM} (h : cWor a v μ) (h6 : μ 0 6 = 1) : ∃ N K M x, v = some (N, K, M, x) ∧ sMath a (aMem a none) N K M ∧ sSup a (aMem a none) N K M 0 μ ∧ μ 33 0 = (M : Int) ∧ M ≤ 200 ∧ (0 < M → x < M ∧ μ 0 7 = ((x + 1 : Nat) : Int)) := by
  rcases h.2.2.2.2 with ⟨-, h⟩ | ⟨N, K, M, x, h1, h2, h3, h4, h5⟩
  · omega
  · exact ⟨N, K, M, x, h1, h3, h4, h4.1, by have := h3.2.1.2; have := h3.2.2.2.2.2.1; omega, h5⟩
theorem cWor_vM {a : aT} {v : vT} {μ : zM} (h : cWor a v μ) : (μ 0 6 = 1 ∧ ¬ μ 33 0 = 0) ↔ vM v ≠ 0 := by
  rcases h.2.2.2.2 with ⟨h1, h2⟩ | ⟨N, K, M, x, h1, h2, h3, h4, h5⟩
  · rw [h1]
    simp [vM, h2]
  · have h6 : μ 33 0 = (M : Int) := h4.1
    rw [h1, h6]
    show _ ↔ M ≠ 0
    exact ⟨fun h h' => h.2 (by omega), fun h => ⟨h2, by omega⟩⟩
theorem cWor_none {a : aT} {v : vT} {μ : zM} (h : cWor a v μ) : μ 0 6 = 0 ↔ v = none := by
  rcases h.2.2.2.2 with ⟨h1, h2⟩ | ⟨N, K, M, x, h1, h2, h3, h4, h5⟩
  · simp [h1, h2]
  · simp [h1, h2]
theorem sSt {a : aT} {mem : Nat → Bool} {N : Nat} {K : Nat → Bool} {M j s : Nat} {μ : zM} (hM : sMath a mem N K M) (hS : sSup a mem N K M j μ) (hs : s < M) :
    ∃ k c : Nat, (oAt (gtg (sg a mem N)) K (12 * M))[s]? = some k ∧ k < N ∧ (sg a mem N).1[k]? = some c ∧ μ (35 + 6 * j) (s + 1) = (c : Int) ∧ zmask 12 (μ (36 + 6 * j) (s + 1)) (sU a (sg a mem N) k) ∧ mDist (gtg (sg a mem N)) K (sG a mem (sg a mem N)) k (μ (37 + 6 * j) (s + 1)) ∧ ∀ e, e < 12 → sT (sg a mem N) K (oAt (gtg (sg a mem N)) K (12 * M)) k e (μ (38 + 6 * j) (12 * (s + 1) + e)) := by
  obtain ⟨k, hk⟩ : ∃ k, (oAt (gtg (sg a mem N)) K (12 * M))[s]? = some k := ⟨_, List.getElem?_eq_getElem (by rw [hM.2.2.2.2.1.1]; exact hs)⟩
  obtain ⟨⟨c, h1, h2⟩, h3, h4, h5⟩ := hS.2.2.2.2 s k hs hk
  exact ⟨k, c, hk, hM.2.2.2.2.2.2.1 s k hk, h1, h2, h3, h4, h5⟩
theorem sT_r {g : gT} {K : Nat → Bool} {O : List Nat} {k e : Nat} {v : Int} (h : sT g K O k e v) (hO : O.length ≤ 200) : 0 ≤ v ∧ v ≤ 200 := by
  rcases h with ⟨-, h⟩ | ⟨-, s, h1, h2⟩
  · omega
  · have := (List.getElem?_eq_some_iff.mp h1).1
    omega
theorem sT_nz {g : gT} {K : Nat → Bool} {O : List Nat} {k e : Nat} {v : Int} (h : sT g K O k e v) : v = 0 ↔ ktg (gtg g) K k e = 0 := by
  rcases h with ⟨h1, h⟩ | ⟨h1, s, -, h2⟩
  · exact ⟨fun _ => h1, fun _ => h⟩
  · exact ⟨fun h => by omega, fun h => absurd h h1⟩
def vd (t : Nat) (u : Bool) : Int := if t = 0 then (if u = true then 1 else 2) else 0
def sWl (g : gT) (K : Nat → Bool) (v : Int) : Prop := (v = -1 ∧ ∀ k, k < g.1.length → K k = true) ∨ ∃ k, k < g.1.length ∧ K k = false ∧ (∀ j, j < k → K j = true) ∧ v = ((wB (fb g) 200 k).length : Int)
theorem wB_len (f : Nat → Nat) : ∀ d k, (wB f d k).length ≤ d
  | 0, k => Nat.le_refl _
  | d + 1, k => by
    unfold wB
    split
    · simp
    · simp only [List.length_cons]
      have := wB_len f d (f k / 12 - 1)
      omega
theorem sWd_r {g : gT} {K : Nat → Bool} {v : Int} {f : Nat → Int} (h : sWd g K v f) : -1 ≤ v ∧ v ≤ 200 := by
  rcases h with ⟨h, -⟩ | ⟨k, -, -, -, h, -⟩
  · omega
  · have := wB_len (fb g) 200 k
    omega
theorem sWd_l {g : gT} {K : Nat → Bool} {v : Int} {f : Nat → Int} (h : sWd g K v f) : sWl g K v := by
  rcases h with h | ⟨k, h1, h2, h3, h4, -⟩
  · exact Or.inl h
  · exact Or.inr ⟨k, h1, h2, h3, h4⟩
def bsum (f : Nat → Bool) : Nat → Nat
  | 0 => 0
  | n + 1 => bsum f n + (if f n = true then 2 ^ n else 0)
theorem bsum_lt (f : Nat → Bool) : ∀ n, bsum f n < 2 ^ n
  | 0 => by simp [bsum]
  | n + 1 => by
    have := bsum_lt f n
    unfold bsum
    rw [Nat.pow_succ]
    split <;> omega
theorem zor_nat {a b : Nat} (ha : a < 2147483648) (hb : b < 2147483648) : zor (a : Int) (b : Int) = ((a ||| b : Nat) : Int) := by
  have hlt : a ||| b < 2 ^ 31 := Nat.or_lt_two_pow ha hb
  apply zext (zor_r _ _) (by omega)
  intro j hj
  rw [zbt_or, zbt_nat, zbt_nat, zbt_nat, Nat.testBit_or]
  simp [hj]
theorem zshl_one {e : Nat} (he : e < 12) : zshl 1 (e : Int) = ((2 ^ e : Nat) : Int) := by
  have hlt : 2 ^ e < 2 ^ 12 := Nat.pow_lt_pow_right (by decide) he
  obtain ⟨z, hz⟩ : ∃ z, z = 2 ^ e := ⟨_, rfl⟩
  rw [← hz] at hlt ⊢
  apply zext (zshl_r _ _) (by omega)
  intro j hj
  rw [zb1 (by omega) hj, zbt_nat, hz, Nat.testBit_two_pow]
  by_cases h : j = e
  · subst h
    simp [hj]
  · have : ¬ e = j := fun h' => h h'.symm
    simp [h, this]
theorem bsum_or (f : Nat → Bool) {e : Nat} (he : e < 12) : zor (bsum f e : Int) (zshl 1 (e : Int)) = ((bsum f e + 2 ^ e : Nat) : Int) := by
  have h1 := bsum_lt f e
  have hlt : 2 ^ e < 2 ^ 12 := Nat.pow_lt_pow_right (by decide) he
  rw [zshl_one he, zor_nat (by omega) (by omega)]
  have := Nat.two_pow_add_eq_or_of_lt h1 1
  rw [Nat.mul_one] at this
  rw [Nat.or_comm, ← this, Nat.add_comm]
def rMake (a : aT) (v : vT) (r : Int) : Prop := (r = -2 ∧ v = none ∧ aReady a (aMem a none) = false) ∨ (r = -1 ∧ v = none ∧ aReady a (aMem a none) = true ∧ gMany (nxtA a (aMem a none)) (cod (aFirst a (aMem a none)))) ∨ ∃ N K M, v = some (N, K, M, 0) ∧ aReady a (aMem a none) = true ∧ sMath a (aMem a none) N K M ∧ r = (M : Int)
set_option maxRecDepth 100000 in
set_option maxHeartbeats 4000000 in
theorem m_S_target (l : Launch) (μ : zM) {j s e : Nat} (h_j : j < 3) (hs : s < 200) (he : e < 12) :
    zC l y_S_target b_S_target 3 (some .int) [] 0 0 0 true [zp (33 + 6 * j), zi ((s + 1 : Nat) : Int), zi (e : Int)] μ (zRi (fun r μ' => μ' = μ ∧ r = μ (38 + 6 * j) (12 * (s + 1) + e))) := by
  refine zC.of (own := n_S) (L := [some (zp (33 + 6 * j)), some (zi ((s + 1 : Nat) : Int)), some (zi (e : Int))]) (by decide) rfl (by simp [zcat]) (Nat.le_of_ble_eq_true rfl) rfl (fun Γ => ?_)
  refine zU_aload_n d_S_target_0 rfl ?_
  refine zU_getR (38 + 6 * j) d_S_target_1 f_S_24 (zSl0 h_j) (zSk0 h_j) rfl (zSr8 h_j) ?_
  refine zU_iload_n d_S_target_4 rfl ?_
  refine zU_bipush d_S_target_5 (by decide) ?_
  refine zU_imul d_S_target_7 ?_
  refine zU_iload_n d_S_target_8 rfl ?_
  refine zU_iadd d_S_target_9 ?_
  refine zU_iald (v := μ (38 + 6 * j) (12 * (s + 1) + e)) d_S_target_10 (zSl5 h_j) (zSk5 h_j) (by decide) (by omega) (by congr 1; omega) ?_
  exact zU_ireturn d_S_target_11 (Or.inl rfl) (by decide) (by decide) (⟨_, rfl, rfl, rfl⟩)
set_option maxRecDepth 100000 in
set_option maxHeartbeats 4000000 in
theorem m_S_verdict (l : Launch) (μ : zM) {g : gT} {K : Nat → Bool} {O : List Nat} {U : Nat → Bool} {j s e k : Nat} (h_j : j < 3) (hs : s < 200) (he : e < 12) (hO : O.length ≤ 200) (hT : sT g K O k e (μ (38 + 6 * j) (12 * (s + 1) + e))) (hU : zmask 12 (μ (36 + 6 * j) (s + 1)) U) :
    zC l y_S_verdict b_S_verdict 3 (some .int) [] 1 0 22 true [zp (33 + 6 * j), zi ((s + 1 : Nat) : Int), zi (e : Int)] μ (zRi (fun r μ' => μ' = μ ∧ r = vd (ktg (gtg g) K k e) (U e))) := by
  refine zC.of (own := n_S) (L := [some (zp (33 + 6 * j)), some (zi ((s + 1 : Nat) : Int)), some (zi (e : Int))]) (by decide) rfl (by simp [zcat]) (Nat.le_of_ble_eq_true rfl) rfl (fun Γ => ?_)
  refine zU_aload_n d_S_verdict_0 rfl ?_
  refine zU_iload_n d_S_verdict_1 rfl ?_
  refine zU_iload_n d_S_verdict_2 rfl ?_
  refine zU_callVi (p0 := (33 + 6 * j)) [zi ((s + 1 : Nat) : Int), zi (e : Int)] d_S_verdict_3 k_S_27 rfl (zSl0 h_j) (zSk0 h_j) rfl (by decide) (Nat.le_of_ble_eq_true rfl) (fun l => m_S_target l μ h_j hs he) (fun r3 μ3 h3 => ?_)
  obtain ⟨hμ3, rfl⟩ := h3
  replace hμ3 := hμ3.symm
  subst hμ3
  refine zU_if_eq 11 d_S_verdict_6 (by decide) (by have := sT_r hT hO; omega) (fun h6 => ?_) (fun h6 => ?_)
  · refine zU_aload_n d_S_verdict_11 rfl ?_
    refine zU_getR (36 + 6 * j) d_S_verdict_12 f_S_18 (zSl0 h_j) (zSk0 h_j) rfl (zSr6 h_j) ?_
    refine zU_iload_n d_S_verdict_15 rfl ?_
    refine zU_iald (v := μ (36 + 6 * j) (s + 1)) d_S_verdict_16 (zSl3 h_j) (zSk3 h_j) (by decide) (by omega) (rfl) ?_
    refine zU_iload_n d_S_verdict_17 rfl ?_
    refine zU_callSi [zi (μ (36 + 6 * j) (s + 1)), zi (e : Int)] d_S_verdict_18 k_S_31 rfl (by decide) (Nat.le_of_ble_eq_true rfl) (fun l => m_C_hasBit l μ _ e hU.1 (by omega)) (fun r18 μ18 h18 => ?_)
    obtain ⟨hμ18, rfl⟩ := h18
    replace hμ18 := hμ18.symm
    subst hμ18
    refine zU_if_eq 28 d_S_verdict_21 (by decide) (zBr _) (fun h21 => ?_) (fun h21 => ?_)
    · refine zU_iconst d_S_verdict_28 ?_
      exact zU_ireturn d_S_verdict_29 (Or.inl rfl) (by decide) (by decide) (⟨_, rfl, rfl, by unfold vd; rw [if_pos ((sT_nz hT).mp h6), ← hU.2 e he, zB_zero.mp h21]; rfl⟩)
    · refine zU_iconst d_S_verdict_24 ?_
      refine zU_goto 29 d_S_verdict_25 (by decide) ?_
      exact zU_ireturn d_S_verdict_29 (Or.inl rfl) (by decide) (by decide) (⟨_, rfl, rfl, by unfold vd; rw [if_pos ((sT_nz hT).mp h6), ← hU.2 e he, zB_nz.mp h21]; rfl⟩)
  · refine zU_iconst d_S_verdict_9 ?_
    exact zU_ireturn d_S_verdict_10 (Or.inl rfl) (by decide) (by decide) (⟨_, rfl, rfl, by unfold vd; rw [if_neg (fun h => h6 ((sT_nz hT).mpr h))]⟩)
set_option maxRecDepth 100000 in
set_option maxHeartbeats 4000000 in
theorem m_S_isMarked (l : Launch) (μ : zM) {j s : Nat} (h_j : j < 3) (hs : s < 200) (hr : -2147483648 ≤ μ (37 + 6 * j) (s + 1) ∧ μ (37 + 6 * j) (s + 1) ≤ 2147483647) :
    zC l y_S_isMarked b_S_isMarked 2 (some .boolean) [] 0 0 0 true [zp (33 + 6 * j), zi ((s + 1 : Nat) : Int)] μ (zRi (fun r μ' => μ' = μ ∧ r = zB (decide (μ (37 + 6 * j) (s + 1) = 0)))) := by
  refine zC.of (own := n_S) (L := [some (zp (33 + 6 * j)), some (zi ((s + 1 : Nat) : Int))]) (by decide) rfl (by simp [zcat]) (Nat.le_of_ble_eq_true rfl) rfl (fun Γ => ?_)
  refine zU_aload_n d_S_isMarked_0 rfl ?_
  refine zU_getR (37 + 6 * j) d_S_isMarked_1 f_S_21 (zSl0 h_j) (zSk0 h_j) rfl (zSr7 h_j) ?_
  refine zU_iload_n d_S_isMarked_4 rfl ?_
  refine zU_iald (v := μ (37 + 6 * j) (s + 1)) d_S_isMarked_5 (zSl4 h_j) (zSk4 h_j) (by decide) (by omega) (rfl) ?_
  refine zU_if_ne 13 d_S_isMarked_6 (by decide) (by omega) (fun h6 => ?_) (fun h6 => ?_)
  · refine zU_iconst d_S_isMarked_13 ?_
    exact zU_ireturn d_S_isMarked_14 (Or.inr ⟨rfl, by omega⟩) (by decide) (by decide) (⟨_, rfl, rfl, by simp [h6, zB]⟩)
  · refine zU_iconst d_S_isMarked_9 ?_
    refine zU_goto 14 d_S_isMarked_10 (by decide) ?_
    exact zU_ireturn d_S_isMarked_14 (Or.inr ⟨rfl, by omega⟩) (by decide) (by decide) (⟨_, rfl, rfl, by simp [h6, zB]⟩)
set_option maxRecDepth 100000 in
set_option maxHeartbeats 4000000 in
theorem m_C_says (l : Launch) (μ : zM) {a : aT} {v : vT} (hW : cWor a v μ) {x y : Int} (hx : -2147483648 ≤ x ∧ x ≤ 2147483647) (hy : -2147483648 ≤ y ∧ y ≤ 2147483647) :
    zC l y_C_says b_C_says 3 (some .int) [] 8 3 124 true [zp 0, zi x, zi y] μ (zRit (fun r μ' => μ' = μ ∧ ∃ N K M p, ∃ s k e : Nat, v = some (N, K, M, p) ∧ x = ((s + 1 : Nat) : Int) ∧ y = (e : Int) ∧ s < M ∧ e < 12 ∧ (eO a N K M)[s]? = some k ∧ r = vd (ktg (gtg (eg a N)) K k e) (sU a (eg a N) k e)) (fun k μ' => μ' = μ ∧ ((k = 1 ∧ vM v = 0) ∨ (k = 0 ∧ vM v ≠ 0 ∧ ¬ ((1 ≤ x ∧ x ≤ vM v) ∧ 0 ≤ y ∧ y < 12))))) := by
  refine zC.of (own := n_C) (L := [some (zp 0), some (zi x), some (zi y)]) (by decide) rfl (by simp [zcat]) (Nat.le_of_ble_eq_true rfl) rfl (fun Γ => ?_)
  refine zU_aload_n d_C_says_0 rfl ?_
  refine zU_iload_n d_C_says_1 rfl ?_
  refine zU_iload_n d_C_says_2 rfl ?_
  refine zU_callVvt (p0 := 0) [zi x, zi y] d_C_says_3 k_C_122 rfl (by decide) rfl rfl (by decide) (Nat.le_of_ble_eq_true rfl) (fun l => m_C_requireStateAndEvent l μ (cWor_6 hW) hx hy (cWor_33 hW)) (fun μ3 h3 => ?_) (fun k μt ht => zthru (by decide) (by decide) (Or.inr ⟨k, rfl, ht.1, by rcases ht.2 with ⟨h1, h2⟩ | ⟨h1, h2, h3⟩; { exact Or.inl ⟨h1, Classical.not_not.mp (fun h => h2 ((cWor_vM hW).mpr h))⟩ }; { refine Or.inr ⟨h1, (cWor_vM hW).mp h2, fun h => h3 ?_⟩; obtain ⟨N, K, M, p, hv, hM, hS, h33, hM200, hp⟩ := cWor_get hW h2.1; rw [hv] at h; simp only [vM] at h; omega }⟩))
  obtain ⟨hμ3, hs3, hx3, hy3⟩ := h3
  replace hμ3 := hμ3.symm
  subst hμ3
  obtain ⟨N, K, M, p, hv, hM, hS, h33, hM200, hp⟩ := cWor_get hW hs3.1
  have hOl : (eO a N K M).length ≤ 200 := by rw [hM.2.2.2.2.1.1]; exact hM200
  obtain ⟨s, hxs⟩ : ∃ s : Nat, x = ((s + 1 : Nat) : Int) := ⟨(x - 1).toNat, by omega⟩
  obtain ⟨e, hye⟩ : ∃ e : Nat, y = (e : Int) := ⟨y.toNat, by omega⟩
  subst hxs hye
  have hsM : s < M := by omega
  have he : e < 12 := by omega
  obtain ⟨k, c, hk, hkN, hkc, hc1, hU1, hD1, hT1⟩ := sSt hM hS hsM
  refine zU_aload_n d_C_says_6 rfl ?_
  refine zU_getR 33 d_C_says_7 f_C_40 (by decide) rfl rfl rfl ?_
  refine zU_iload_n d_C_says_10 rfl ?_
  refine zU_iload_n d_C_says_11 rfl ?_
  refine zU_callVi (p0 := 33) [zi ((s + 1 : Nat) : Int), zi (e : Int)] d_C_says_12 k_C_126 rfl (by decide) rfl rfl (by decide) (Nat.le_of_ble_eq_true rfl) (fun l => m_S_verdict l μ (j := 0) (s := s) (e := e) (by decide) (by omega) he hOl (hT1 e he) hU1) (fun r12 μ12 h12 => ?_)
  obtain ⟨hμ12, hr12⟩ := h12
  replace hμ12 := hμ12.symm
  subst hμ12
  subst hr12
  exact zU_ireturn d_C_says_15 (Or.inl rfl) (by decide) (by decide) (Or.inl ⟨_, rfl, rfl, N, K, M, p, s, k, e, hv, rfl, rfl, hsM, he, hk, rfl⟩)
set_option maxRecDepth 100000 in
set_option maxHeartbeats 4000000 in
theorem m_C_leads (l : Launch) (μ : zM) {a : aT} {v : vT} (hW : cWor a v μ) {x y : Int} (hx : -2147483648 ≤ x ∧ x ≤ 2147483647) (hy : -2147483648 ≤ y ∧ y ≤ 2147483647) :
    zC l y_C_leads b_C_leads 3 (some .int) [] 8 3 124 true [zp 0, zi x, zi y] μ (zRit (fun r μ' => μ' = μ ∧ ∃ N K M p, ∃ s k e : Nat, v = some (N, K, M, p) ∧ x = ((s + 1 : Nat) : Int) ∧ y = (e : Int) ∧ s < M ∧ e < 12 ∧ (eO a N K M)[s]? = some k ∧ sT (eg a N) K (eO a N K M) k e r) (fun k μ' => μ' = μ ∧ ((k = 1 ∧ vM v = 0) ∨ (k = 0 ∧ vM v ≠ 0 ∧ ¬ ((1 ≤ x ∧ x ≤ vM v) ∧ 0 ≤ y ∧ y < 12))))) := by
  refine zC.of (own := n_C) (L := [some (zp 0), some (zi x), some (zi y)]) (by decide) rfl (by simp [zcat]) (Nat.le_of_ble_eq_true rfl) rfl (fun Γ => ?_)
  refine zU_aload_n d_C_leads_0 rfl ?_
  refine zU_iload_n d_C_leads_1 rfl ?_
  refine zU_iload_n d_C_leads_2 rfl ?_
  refine zU_callVvt (p0 := 0) [zi x, zi y] d_C_leads_3 k_C_122 rfl (by decide) rfl rfl (by decide) (Nat.le_of_ble_eq_true rfl) (fun l => m_C_requireStateAndEvent l μ (cWor_6 hW) hx hy (cWor_33 hW)) (fun μ3 h3 => ?_) (fun k μt ht => zthru (by decide) (by decide) (Or.inr ⟨k, rfl, ht.1, by rcases ht.2 with ⟨h1, h2⟩ | ⟨h1, h2, h3⟩; { exact Or.inl ⟨h1, Classical.not_not.mp (fun h => h2 ((cWor_vM hW).mpr h))⟩ }; { refine Or.inr ⟨h1, (cWor_vM hW).mp h2, fun h => h3 ?_⟩; obtain ⟨N, K, M, p, hv, hM, hS, h33, hM200, hp⟩ := cWor_get hW h2.1; rw [hv] at h; simp only [vM] at h; omega }⟩))
  obtain ⟨hμ3, hs3, hx3, hy3⟩ := h3
  replace hμ3 := hμ3.symm
  subst hμ3
  obtain ⟨N, K, M, p, hv, hM, hS, h33, hM200, hp⟩ := cWor_get hW hs3.1
  have hOl : (eO a N K M).length ≤ 200 := by rw [hM.2.2.2.2.1.1]; exact hM200
  obtain ⟨s, hxs⟩ : ∃ s : Nat, x = ((s + 1 : Nat) : Int) := ⟨(x - 1).toNat, by omega⟩
  obtain ⟨e, hye⟩ : ∃ e : Nat, y = (e : Int) := ⟨y.toNat, by omega⟩
  subst hxs hye
  have hsM : s < M := by omega
  have he : e < 12 := by omega
  obtain ⟨k, c, hk, hkN, hkc, hc1, hU1, hD1, hT1⟩ := sSt hM hS hsM
  refine zU_aload_n d_C_leads_6 rfl ?_
  refine zU_getR 33 d_C_leads_7 f_C_40 (by decide) rfl rfl rfl ?_
  refine zU_iload_n d_C_leads_10 rfl ?_
  refine zU_iload_n d_C_leads_11 rfl ?_
  refine zU_callVi (p0 := 33) [zi ((s + 1 : Nat) : Int), zi (e : Int)] d_C_leads_12 k_C_129 rfl (by decide) rfl rfl (by decide) (Nat.le_of_ble_eq_true rfl) (fun l => m_S_target l μ (j := 0) (s := s) (e := e) (by decide) (by omega) he) (fun r12 μ12 h12 => ?_)
  obtain ⟨hμ12, hr12⟩ := h12
  replace hμ12 := hμ12.symm
  subst hμ12
  subst hr12
  exact zU_ireturn d_C_leads_15 (Or.inl rfl) (by decide) (by decide) (Or.inl ⟨_, rfl, rfl, N, K, M, p, s, k, e, hv, rfl, rfl, hsM, he, hk, hT1 e he⟩)
set_option maxRecDepth 100000 in
set_option maxHeartbeats 4000000 in
theorem m_C_part (l : Launch) (μ : zM) {a : aT} {v : vT} (hW : cWor a v μ) {x y : Int} (hx : -2147483648 ≤ x ∧ x ≤ 2147483647) (hy : -2147483648 ≤ y ∧ y ≤ 2147483647) :
    zC l y_C_part b_C_part 3 (some .int) [] 7 3 102 true [zp 0, zi x, zi y] μ (zRit (fun r μ' => μ' = μ ∧ ∃ N K M p, ∃ s k i c : Nat, v = some (N, K, M, p) ∧ x = ((s + 1 : Nat) : Int) ∧ y = (i : Int) ∧ s < M ∧ i < aN a ∧ (eO a N K M)[s]? = some k ∧ (eg a N).1[k]? = some c ∧ r = (dig c i : Int)) (fun k μ' => μ' = μ ∧ ((k = 1 ∧ vM v = 0) ∨ (k = 0 ∧ vM v ≠ 0 ∧ ¬ ((1 ≤ x ∧ x ≤ vM v) ∧ 0 ≤ y ∧ y < aN a))))) := by
  refine zC.of (own := n_C) (L := [some (zp 0), some (zi x), some (zi y)]) (by decide) rfl (by simp [zcat]) (Nat.le_of_ble_eq_true rfl) rfl (fun Γ => ?_)
  have hN4 := hW.1.1
  have hN := hW.2.1.1
  refine zU_aload_n d_C_part_0 rfl ?_
  refine zU_callVvt (p0 := 0) [] d_C_part_1 k_C_132 rfl (by decide) rfl rfl (by decide) (Nat.le_of_ble_eq_true rfl) (fun l => m_C_requireSupervisor l μ (cWor_6 hW) (cWor_33 hW)) (fun μ1 h1 => ?_) (fun k μt ht => zthru (by decide) (by decide) (Or.inr ⟨k, rfl, ht.1, Or.inl ⟨ht.2.1, Classical.not_not.mp (fun h => ht.2.2 ((cWor_vM hW).mpr h))⟩⟩))
  obtain ⟨hμ1, hs1⟩ := h1
  replace hμ1 := hμ1.symm
  subst hμ1
  have hvM := (cWor_vM hW).mp hs1
  obtain ⟨N, K, M, p, hv, hM, hS, h33, hM200, hp⟩ := cWor_get hW hs1.1
  have hOl : (eO a N K M).length ≤ 200 := by rw [hM.2.2.2.2.1.1]; exact hM200
  obtain ⟨hpM, h07⟩ := hp (by omega)
  have hvMe : vM v = M := by rw [hv]; rfl
  refine zU_aload_n d_C_part_4 rfl ?_
  refine zU_iload_n d_C_part_5 rfl ?_
  refine zU_callVvt (p0 := 0) [zi x] d_C_part_6 k_C_135 rfl (by decide) rfl rfl (by decide) (Nat.le_of_ble_eq_true rfl) (fun l => m_C_requireState l μ hx (cWor_33 hW)) (fun μ6 h6 => ?_) (fun k μt ht => zthru (by decide) (by decide) (Or.inr ⟨k, rfl, ht.1, Or.inr ⟨ht.2.1, hvM, fun h => ht.2.2 (by rw [hvMe] at h; omega)⟩⟩))
  obtain ⟨hμ6, hs6⟩ := h6
  replace hμ6 := hμ6.symm
  subst hμ6
  obtain ⟨s, hxs⟩ : ∃ s : Nat, x = ((s + 1 : Nat) : Int) := ⟨(x - 1).toNat, by omega⟩
  subst hxs
  have hsM : s < M := by omega
  obtain ⟨k, c, hk, hkN, hkc, hc1, hU1, hD1, hT1⟩ := sSt hM hS hsM
  refine zU_aload_n d_C_part_9 rfl ?_
  refine zU_getR 1 d_C_part_10 f_C_12 (by decide) rfl rfl rfl ?_
  refine zU_iload_n d_C_part_13 rfl ?_
  refine zU_callVi (p0 := 1) [zi y] d_C_part_14 k_C_138 rfl (by decide) rfl rfl (by decide) (Nat.le_of_ble_eq_true rfl) (fun l => m_A_hasNumber l μ hy (by omega)) (fun r14 μ14 h14 => ?_)
  obtain ⟨hμ14, rfl⟩ := h14
  replace hμ14 := hμ14.symm
  subst hμ14
  refine zU_if_ne 28 d_C_part_17 (by decide) (zBr _) (fun h17 => ?_) (fun h17 => ?_)
  · have g1 := of_decide_eq_true (zB_nz.mp h17)
    obtain ⟨i, hyi⟩ : ∃ i : Nat, y = (i : Int) := ⟨y.toNat, by omega⟩
    subst hyi
    refine zU.eqL (L' := [some (zp 0), some (zi ((s + 1 : Nat) : Int)), some (zi (i : Int))]) (rfl) ?_
    refine zU_aload_n d_C_part_28 rfl ?_
    refine zU_getR 33 d_C_part_29 f_C_40 (by decide) rfl rfl rfl ?_
    refine zU_getR 35 d_C_part_32 f_C_141 (by decide) rfl rfl rfl ?_
    refine zU_iload_n d_C_part_35 rfl ?_
    refine zU_iald (v := (c : Int)) d_C_part_36 (by decide) rfl (by decide) (by omega) (hc1) ?_
    refine zU_iload_n d_C_part_37 rfl ?_
    refine zU_callSi [zi (c : Int), zi (i : Int)] d_C_part_38 k_C_145 rfl (by decide) (Nat.le_of_ble_eq_true rfl) (fun l => m_A_stateIn l μ (c := c) (i := i) (hM.2.2.2.2.2.2.2 c (List.mem_of_getElem? hkc)).1 (by omega)) (fun r38 μ38 h38 => ?_)
    obtain ⟨hμ38, hr38⟩ := h38
    replace hμ38 := hμ38.symm
    subst hμ38
    subst hr38
    exact zU_ireturn d_C_part_41 (Or.inl rfl) (by decide) (by decide) (Or.inl ⟨_, rfl, rfl, N, K, M, p, s, k, i, c, hv, rfl, rfl, hsM, by omega, hk, hkc, rfl⟩)
  · exact zU_throw 0 d_C_part_20 d_C_part_23 d_C_part_24 d_C_part_27 w_C_50 (by decide) (Or.inr ⟨0, rfl, rfl, Or.inr ⟨rfl, hvM, fun h => of_decide_eq_false (zB_zero.mp h17) (by rw [hN]; omega)⟩⟩)
set_option maxRecDepth 100000 in
set_option maxHeartbeats 4000000 in
theorem m_C_many (l : Launch) (μ : zM) {a : aT} {v : vT} (hW : cWor a v μ) {x : Int} (hx : -2147483648 ≤ x ∧ x ≤ 2147483647) :
    zC l y_C_many b_C_many 2 (some .int) [] 7 2 101 true [zp 0, zi x] μ (zRit (fun r μ' => μ' = μ ∧ ∃ N K M p, v = some (N, K, M, p) ∧ ((x = 0 ∧ r = (N : Int)) ∨ (x = 1 ∧ r = (cnt K N : Int)))) (fun k μ' => μ' = μ ∧ ((k = 0 ∧ ¬ (0 ≤ x ∧ x < 2)) ∨ (k = 1 ∧ (0 ≤ x ∧ x < 2) ∧ v = none)))) := by
  refine zC.of (own := n_C) (L := [some (zp 0), some (zi x)]) (by decide) rfl (by simp [zcat]) (Nat.le_of_ble_eq_true rfl) rfl (fun Γ => ?_)
  refine zU_iload_n d_C_many_0 rfl ?_
  refine zU_if_eq 17 d_C_many_1 (by decide) (by omega) (fun h1 => ?_) (fun h1 => ?_)
  · refine zU_aload_n d_C_many_17 rfl ?_
    refine zU_callVvt (p0 := 0) [] d_C_many_18 k_C_148 rfl (by decide) rfl rfl (by decide) (Nat.le_of_ble_eq_true rfl) (fun l => m_C_requireResult l μ (cWor_6 hW)) (fun μ18 h18 => ?_) (fun k μt ht => zthru (by decide) (by decide) (Or.inr ⟨k, rfl, ht.1, Or.inr ⟨ht.2.1, by omega, (cWor_none hW).mp ht.2.2⟩⟩))
    obtain ⟨hμ18, hs18⟩ := h18
    replace hμ18 := hμ18.symm
    subst hμ18
    obtain ⟨N, K, M, p, hv, hM, hS, h33, hM200, hp⟩ := cWor_get hW hs18
    refine zU_iload_n d_C_many_21 rfl ?_
    refine zU_if_ne 35 d_C_many_22 (by decide) (by omega) (fun h22 => ?_) (fun h22 => ?_)
    · refine zU_aload_n d_C_many_35 rfl ?_
      refine zU_getR 33 d_C_many_36 f_C_40 (by decide) rfl rfl rfl ?_
      refine zU_getI (v := ((cnt K N : Nat) : Int)) d_C_many_39 f_C_154 (by decide) rfl rfl (hS.2.2.1) ?_
      exact zU_ireturn d_C_many_42 (Or.inl rfl) (by decide) (by decide) (Or.inl ⟨_, rfl, rfl, N, K, M, p, hv, by omega⟩)
    · refine zU_aload_n d_C_many_25 rfl ?_
      refine zU_getR 33 d_C_many_26 f_C_40 (by decide) rfl rfl rfl ?_
      refine zU_getI (v := (N : Int)) d_C_many_29 f_C_151 (by decide) rfl rfl (hS.2.1) ?_
      refine zU_goto 42 d_C_many_32 (by decide) ?_
      exact zU_ireturn d_C_many_42 (Or.inl rfl) (by decide) (by decide) (Or.inl ⟨_, rfl, rfl, N, K, M, p, hv, by omega⟩)
  · refine zU_iload_n d_C_many_4 rfl ?_
    refine zU_iconst d_C_many_5 ?_
    refine zU_icmp_eq 17 d_C_many_6 (by decide) (by omega) (by omega) (fun h6 => ?_) (fun h6 => ?_)
    · refine zU_aload_n d_C_many_17 rfl ?_
      refine zU_callVvt (p0 := 0) [] d_C_many_18 k_C_148 rfl (by decide) rfl rfl (by decide) (Nat.le_of_ble_eq_true rfl) (fun l => m_C_requireResult l μ (cWor_6 hW)) (fun μ18 h18 => ?_) (fun k μt ht => zthru (by decide) (by decide) (Or.inr ⟨k, rfl, ht.1, Or.inr ⟨ht.2.1, by omega, (cWor_none hW).mp ht.2.2⟩⟩))
      obtain ⟨hμ18, hs18⟩ := h18
      replace hμ18 := hμ18.symm
      subst hμ18
      obtain ⟨N, K, M, p, hv, hM, hS, h33, hM200, hp⟩ := cWor_get hW hs18
      refine zU_iload_n d_C_many_21 rfl ?_
      refine zU_if_ne 35 d_C_many_22 (by decide) (by omega) (fun h22 => ?_) (fun h22 => ?_)
      · refine zU_aload_n d_C_many_35 rfl ?_
        refine zU_getR 33 d_C_many_36 f_C_40 (by decide) rfl rfl rfl ?_
        refine zU_getI (v := ((cnt K N : Nat) : Int)) d_C_many_39 f_C_154 (by decide) rfl rfl (hS.2.2.1) ?_
        exact zU_ireturn d_C_many_42 (Or.inl rfl) (by decide) (by decide) (Or.inl ⟨_, rfl, rfl, N, K, M, p, hv, by omega⟩)
      · refine zU_aload_n d_C_many_25 rfl ?_
        refine zU_getR 33 d_C_many_26 f_C_40 (by decide) rfl rfl rfl ?_
        refine zU_getI (v := (N : Int)) d_C_many_29 f_C_151 (by decide) rfl rfl (hS.2.1) ?_
        refine zU_goto 42 d_C_many_32 (by decide) ?_
        exact zU_ireturn d_C_many_42 (Or.inl rfl) (by decide) (by decide) (Or.inl ⟨_, rfl, rfl, N, K, M, p, hv, by omega⟩)
    · exact zU_throw 0 d_C_many_9 d_C_many_12 d_C_many_13 d_C_many_16 w_C_50 (by decide) (Or.inr ⟨0, rfl, rfl, Or.inl ⟨rfl, by omega⟩⟩)
set_option maxRecDepth 100000 in
set_option maxHeartbeats 4000000 in
theorem m_C_why (l : Launch) (μ : zM) {a : aT} {v : vT} (hW : cWor a v μ) :
    zC l y_C_why b_C_why 1 (some .int) [] 7 1 101 true [zp 0] μ (zRit (fun r μ' => μ' = μ ∧ ∃ N K M p, v = some (N, K, M, p) ∧ sWl (eg a N) K r) (fun k μ' => μ' = μ ∧ k = 1 ∧ v = none)) := by
  refine zC.of (own := n_C) (L := [some (zp 0)]) (by decide) rfl (by simp [zcat]) (Nat.le_of_ble_eq_true rfl) rfl (fun Γ => ?_)
  refine zU_aload_n d_C_why_0 rfl ?_
  refine zU_callVvt (p0 := 0) [] d_C_why_1 k_C_148 rfl (by decide) rfl rfl (by decide) (Nat.le_of_ble_eq_true rfl) (fun l => m_C_requireResult l μ (cWor_6 hW)) (fun μ1 h1 => ?_) (fun k μt ht => zthru (by decide) (by decide) (Or.inr ⟨k, rfl, ht.1, ht.2.1, (cWor_none hW).mp ht.2.2⟩))
  obtain ⟨hμ1, hs1⟩ := h1
  replace hμ1 := hμ1.symm
  subst hμ1
  obtain ⟨N, K, M, p, hv, hM, hS, h33, hM200, hp⟩ := cWor_get hW hs1
  refine zU_aload_n d_C_why_4 rfl ?_
  refine zU_getR 33 d_C_why_5 f_C_40 (by decide) rfl rfl rfl ?_
  refine zU_getI (v := μ 33 3) d_C_why_8 f_C_157 (by decide) rfl rfl (rfl) ?_
  exact zU_ireturn d_C_why_11 (Or.inl rfl) (by decide) (by decide) (Or.inl ⟨_, rfl, rfl, N, K, M, p, hv, sWd_l hS.2.2.2.1⟩)
set_option maxRecDepth 100000 in
set_option maxHeartbeats 4000000 in
theorem m_C_whyEvent (l : Launch) (μ : zM) {a : aT} {v : vT} (hW : cWor a v μ) {x : Int} (hx : -2147483648 ≤ x ∧ x ≤ 2147483647) :
    zC l y_C_whyEvent b_C_whyEvent 2 (some .int) [] 7 2 101 true [zp 0, zi x] μ (zRit (fun r μ' => μ' = μ ∧ ∃ N K M p, ∃ k i : Nat, v = some (N, K, M, p) ∧ x = (i : Int) ∧ k < (eg a N).1.length ∧ K k = false ∧ (∀ j, j < k → K j = true) ∧ i < (wB (fb (eg a N)) 200 k).length ∧ ∃ y : Nat, (wB (fb (eg a N)) 200 k)[(wB (fb (eg a N)) 200 k).length - 1 - i]? = some y ∧ r = (y : Int)) (fun k μ' => μ' = μ ∧ ((k = 1 ∧ v = none) ∨ (k = 2 ∧ ∃ N K M p, v = some (N, K, M, p) ∧ ∃ w, sWl (eg a N) K w ∧ ¬ (0 ≤ x ∧ x < w))))) := by
  refine zC.of (own := n_C) (L := [some (zp 0), some (zi x)]) (by decide) rfl (by simp [zcat]) (Nat.le_of_ble_eq_true rfl) rfl (fun Γ => ?_)
  refine zU_aload_n d_C_whyEvent_0 rfl ?_
  refine zU_callVvt (p0 := 0) [] d_C_whyEvent_1 k_C_148 rfl (by decide) rfl rfl (by decide) (Nat.le_of_ble_eq_true rfl) (fun l => m_C_requireResult l μ (cWor_6 hW)) (fun μ1 h1 => ?_) (fun k μt ht => zthru (by decide) (by decide) (Or.inr ⟨k, rfl, ht.1, Or.inl ⟨ht.2.1, (cWor_none hW).mp ht.2.2⟩⟩))
  obtain ⟨hμ1, hs1⟩ := h1
  replace hμ1 := hμ1.symm
  subst hμ1
  obtain ⟨N, K, M, p, hv, hM, hS, h33, hM200, hp⟩ := cWor_get hW hs1
  obtain ⟨w, hw⟩ : ∃ w, μ 33 3 = w := ⟨_, rfl⟩
  have hSw : sWd (eg a N) K (μ 33 3) (μ 34) := hS.2.2.2.1
  rw [hw] at hSw
  have hwr := sWd_r hSw
  refine zU_iload_n d_C_whyEvent_4 rfl ?_
  refine zU_if_lt 19 d_C_whyEvent_5 (by decide) (by omega) (fun h5 => ?_) (fun h5 => ?_)
  · exact zU_throw 2 d_C_whyEvent_19 d_C_whyEvent_22 d_C_whyEvent_23 d_C_whyEvent_26 w_C_160 (by decide) (Or.inr ⟨2, rfl, rfl, Or.inr ⟨rfl, N, K, M, p, hv, w, sWd_l hSw, by omega⟩⟩)
  · refine zU_iload_n d_C_whyEvent_8 rfl ?_
    refine zU_aload_n d_C_whyEvent_9 rfl ?_
    refine zU_getR 33 d_C_whyEvent_10 f_C_40 (by decide) rfl rfl rfl ?_
    refine zU_getI (v := w) d_C_whyEvent_13 f_C_157 (by decide) rfl rfl (hw) ?_
    refine zU_icmp_lt 27 d_C_whyEvent_16 (by decide) (by omega) (by omega) (fun h16 => ?_) (fun h16 => ?_)
    · obtain ⟨k, hk1, hk2, hk3, hk4, hk5⟩ : ∃ k, k < (eg a N).1.length ∧ K k = false ∧ (∀ j, j < k → K j = true) ∧ w = ((wB (fb (eg a N)) 200 k).length : Int) ∧ ∀ (i y : Nat), (wB (fb (eg a N)) 200 k)[i]? = some y → μ 34 i = (y : Int) := by
        rcases hSw with ⟨h, -⟩ | h
        · omega
        · exact h
      obtain ⟨i, hxi⟩ : ∃ i : Nat, x = (i : Int) := ⟨x.toNat, by omega⟩
      subst hxi
      obtain ⟨y, hy⟩ : ∃ y, (wB (fb (eg a N)) 200 k)[(wB (fb (eg a N)) 200 k).length - 1 - i]? = some y := ⟨_, List.getElem?_eq_getElem (by omega)⟩
      have hy5 := hk5 _ y hy
      refine zU.eqL (L' := [some (zp 0), some (zi (i : Int))]) (rfl) ?_
      refine zU_aload_n d_C_whyEvent_27 rfl ?_
      refine zU_getR 33 d_C_whyEvent_28 f_C_40 (by decide) rfl rfl rfl ?_
      refine zU_getR 34 d_C_whyEvent_31 f_C_163 (by decide) rfl rfl rfl ?_
      refine zU_aload_n d_C_whyEvent_34 rfl ?_
      refine zU_getR 33 d_C_whyEvent_35 f_C_40 (by decide) rfl rfl rfl ?_
      refine zU_getI (v := w) d_C_whyEvent_38 f_C_157 (by decide) rfl rfl (hw) ?_
      refine zU_iconst d_C_whyEvent_41 ?_
      refine zU_isub d_C_whyEvent_42 ?_
      refine zU_iload_n d_C_whyEvent_43 rfl ?_
      refine zU_isub d_C_whyEvent_44 ?_
      refine zU_iald (v := (y : Int)) d_C_whyEvent_45 (by decide) rfl (by decide) (by omega) (by rw [show (w - 1 - (i : Int)).toNat = (wB (fb (eg a N)) 200 k).length - 1 - i by omega]; exact hy5) ?_
      exact zU_ireturn d_C_whyEvent_46 (Or.inl rfl) (by decide) (by decide) (Or.inl ⟨_, rfl, rfl, N, K, M, p, k, i, hv, rfl, hk1, hk2, hk3, by omega, y, hy, rfl⟩)
    · exact zU_throw 2 d_C_whyEvent_19 d_C_whyEvent_22 d_C_whyEvent_23 d_C_whyEvent_26 w_C_160 (by decide) (Or.inr ⟨2, rfl, rfl, Or.inr ⟨rfl, N, K, M, p, hv, w, sWd_l hSw, by omega⟩⟩)
