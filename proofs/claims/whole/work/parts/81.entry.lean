/-! the law's entry: what the tables say; the world as it is first made -/
theorem wI_tbl : ∀ w ∈ wI, w ∈ lw_tbl := fun w h => List.mem_append_right _ (List.mem_filter.mp h).1
theorem lw_zTb {s : State} {b : Nat} (hts : ∀ w ∈ lw_tbl, w.before #[Value.ref b] s = true) (hg : (Jvm.Cond.and given_1 narrow_1).before #[Value.ref b] s = true) : zTb s := by
  have hf := flat_of_before _ hg
  refine ⟨fun w hw => va_tabs (zok_on (List.mem_filter.mp hw).2) rfl (hts w (List.mem_filter.mp hw).1), fun w hw => ?_, fun i j hi hj hij => ?_⟩
  · simp only [zWH, List.mem_cons, List.not_mem_nil, or_false] at hw
    rcases hw with rfl | rfl | rfl | rfl
    · exact hf (.isRef (.static "java/lang/Throwable" "UNASSIGNED_STACK" "[Ljava/lang/StackTraceElement;")) (by decide +kernel)
    · exact hf (.isRef (.static "java/lang/Throwable" "SUPPRESSED_SENTINEL" "Ljava/util/List;")) (by decide +kernel)
    · exact hts (.laysStatic "java/lang/Throwable" "UNASSIGNED_STACK" "[Ljava/lang/StackTraceElement;") (List.mem_append_right _ (List.mem_of_getElem? (i := 422) (by decide +kernel)))
    · exact hts (.laysStatic "java/lang/Throwable" "SUPPRESSED_SENTINEL" "Ljava/util/List;") (List.mem_append_right _ (List.mem_of_getElem? (i := 424) (by decide +kernel)))
  · rcases (show i = 0 ∨ i = 1 ∨ i = 2 by omega) with rfl | rfl | rfl <;> rcases (show j = 0 ∨ j = 1 ∨ j = 2 by omega) with rfl | rfl | rfl
    · exact absurd rfl hij
    · exact va_Nc.of (hf (.not (.castable "java/lang/IllegalArgumentException" "java/lang/IllegalStateException")) (by decide +kernel))
    · exact va_Nc.of (hf (.not (.castable "java/lang/IllegalArgumentException" "java/lang/IndexOutOfBoundsException")) (by decide +kernel))
    · exact va_Nc.of (hf (.not (.castable "java/lang/IllegalStateException" "java/lang/IllegalArgumentException")) (by decide +kernel))
    · exact absurd rfl hij
    · exact va_Nc.of (hf (.not (.castable "java/lang/IllegalStateException" "java/lang/IndexOutOfBoundsException")) (by decide +kernel))
    · exact va_Nc.of (hf (.not (.castable "java/lang/IndexOutOfBoundsException" "java/lang/IllegalArgumentException")) (by decide +kernel))
    · exact va_Nc.of (hf (.not (.castable "java/lang/IndexOutOfBoundsException" "java/lang/IllegalStateException")) (by decide +kernel))
    · exact absurd rfl hij
theorem lw_zNw {s : State} {b : Nat} (hts : ∀ w ∈ lw_tbl, w.before #[Value.ref b] s = true) : zNw s :=
  ⟨va_tabs rfl rfl (hts (.methodLinkNest n_A 17 y_M_init n_C) (List.mem_append_right _ (List.mem_of_getElem? (i := 32) (by decide +kernel)))), va_tabs rfl rfl (hts (.methodLinkNest n_C 18 y_G_init n_C) (List.mem_append_right _ (List.mem_of_getElem? (i := 86) (by decide +kernel)))), va_tabs rfl rfl (hts (.methodLinkNest n_C 39 y_S_init n_C) (List.mem_append_right _ (List.mem_of_getElem? (i := 174) (by decide +kernel)))), hts (.arrayOver (.object zAo)) (List.mem_append_right _ (List.mem_of_getElem? (i := 30) (by decide +kernel)))⟩
theorem lw_zK {s : State} {b : Nat} (hts : ∀ w ∈ lw_tbl, w.before #[Value.ref b] s = true) : ∃ (D : va_G) (cA : Nat → ClassId), va_K D zcl (zty cA) s := by
  obtain ⟨cA, iA, kA⟩ := u_known (C := n_A) (T := T_A) (N := 4) (n := 4) hts (fun w h => wI_tbl w (uI_A w h)) (hts (.instantiable n_A 4) (List.mem_append_right _ (List.mem_of_getElem? (i := 24) (by decide +kernel))))
  obtain ⟨cM, iM, kM⟩ := u_known (C := n_M) (T := T_M) (N := 8) (n := 8) hts (fun w h => wI_tbl w (uI_M w h)) (hts (.instantiable n_M 8) (List.mem_append_right _ (List.mem_of_getElem? (i := 31) (by decide +kernel))))
  obtain ⟨cG, iG, kG⟩ := u_known (C := n_G) (T := T_G) (N := 11) (n := 11) hts (fun w h => wI_tbl w (uI_G w h)) (hts (.instantiable n_G 11) (List.mem_append_right _ (List.mem_of_getElem? (i := 85) (by decide +kernel))))
  obtain ⟨cP, iP, kP⟩ := u_known (C := n_P) (T := T_P) (N := 3) (n := 3) hts (fun w h => wI_tbl w (uI_P w h)) (hts (.instantiable n_P 3) (List.mem_append_right _ (List.mem_of_getElem? (i := 157) (by decide +kernel))))
  obtain ⟨cS, iS, kS⟩ := u_known (C := n_S) (T := T_S) (N := 9) (n := 9) hts (fun w h => wI_tbl w (uI_S w h)) (hts (.instantiable n_S 9) (List.mem_append_right _ (List.mem_of_getElem? (i := 173) (by decide +kernel))))
  obtain ⟨cY, iY, kY⟩ := u_known (C := n_Y) (T := T_Y) (N := 5) (n := 5) hts (fun w h => wI_tbl w (uI_Y w h)) (hts (.instantiable n_Y 5) (List.mem_append_right _ (List.mem_of_getElem? (i := 135) (by decide +kernel))))
  obtain ⟨cC, iC, kC⟩ := u_known (C := n_C) (T := T_C) (N := 8) (n := 8) hts (fun w h => wI_tbl w (uI_C w h)) (hts (.instantiable n_C 8) (List.mem_append_right _ (List.mem_of_getElem? (i := 16) (by decide +kernel))))
  obtain ⟨cR, iR, kR⟩ := u_known (C := n_R) (T := T_R) (N := 32) (n := 32) hts (fun w h => wI_tbl w (uI_R w h)) (hts (.instantiable n_R 32) (List.mem_append_right _ (List.mem_of_getElem? (i := 707) (by decide +kernel))))
  obtain ⟨aI, bI, pI, fI, gI, hI⟩ := Cond.arrayClass_spec (hts (.arrayClass .int) (List.mem_append_right _ (List.mem_of_getElem? (i := 67) (by decide +kernel))))
  obtain ⟨aZ, bZ, pZ, fZ, gZ, hZ⟩ := Cond.arrayClass_spec (hts (.arrayClass .boolean) (List.mem_append_right _ (List.mem_of_getElem? (i := 133) (by decide +kernel))))
  obtain ⟨aJ, bJ, pJ, fJ, gJ, hJ⟩ := Cond.arrayClass_spec (hts (.arrayClass .long) (List.mem_append_right _ (List.mem_of_getElem? (i := 967) (by decide +kernel))))
  obtain ⟨pQ, aQ, bQ', fQ, gQ, hQ1, hQ2, hQ3⟩ := Cond.arrayOver_spec (n := zAo) (hts (.arrayOver (.object zAo)) (List.mem_append_right _ (List.mem_of_getElem? (i := 30) (by decide +kernel))))
  refine ⟨(fun c => [cA, cM, cG, cP, cS, cY, cC, cR].getD c cA, fun c => [iA, iM, iG, iP, iS, iY, iC, iR].getD c iA), fun k => [aI, aZ, aJ, aQ].getD k aI, fun c q hq => ?_, fun k q hq => ?_⟩
  · have hc : c < 8 := (List.getElem?_eq_some_iff.mp hq).1
    rcases (show c = 0 ∨ c = 1 ∨ c = 2 ∨ c = 3 ∨ c = 4 ∨ c = 5 ∨ c = 6 ∨ c = 7 by omega) with rfl | rfl | rfl | rfl | rfl | rfl | rfl | rfl
    · cases hq; exact kA
    · cases hq; exact kM
    · cases hq; exact kG
    · cases hq; exact kP
    · cases hq; exact kS
    · cases hq; exact kY
    · cases hq; exact kC
    · cases hq; exact kR
  · have hk : k < 4 := (List.getElem?_eq_some_iff.mp hq).1
    rcases (show k = 0 ∨ k = 1 ∨ k = 2 ∨ k = 3 by omega) with rfl | rfl | rfl | rfl
    · cases hq; exact ⟨fun n z => ⟨fun k h => (by cases h), bI, gI, pI, hI⟩, fI⟩
    · cases hq; exact ⟨fun n z => ⟨fun k h => (by cases h), bZ, gZ, pZ, hZ⟩, fZ⟩
    · cases hq; exact ⟨fun n z => ⟨fun k h => (by cases h), bJ, gJ, pJ, hJ⟩, fJ⟩
    · cases hq; exact ⟨fun n z => ⟨fun k h => (by cases h), bQ', hQ1, pQ, hQ2⟩, bQ', pQ, hQ1, hQ2, fQ, hQ3⟩
def adL (hC : Nat) (qC : Nat → Nat) (hR : Nat) (qR : Nat → Nat) (qJ b : Nat) (p : Nat) : Nat := if p = 0 then hC else if p < 51 then qC p else if p = 51 then hR else if p < 76 then qR (p - 52) else if p = 76 then qJ else b
def mL (p j : Nat) : Int := if p = 57 then (if j < 288 then -1 else 0) else 0
abbrev wL (cA : Nat → ClassId) (hC : Nat) (qC : Nat → Nat) (hR : Nat) (qR : Nat → Nat) (qJ : Nat) : va_W := w_C_post cA hC qC ++ (w_R_post cA hR qR ++ [(qJ, .inl (cA 2, 1, .inr (.inl (fun _ => 0))))])
theorem mL_57 : (fun j => Int32.ofInt (mL 57 j)) = eRk 288 := by
  funext j
  unfold mL eRk
  rw [if_pos rfl]
  by_cases h : j < 288
  · rw [if_pos h, if_pos h]; rfl
  · rw [if_neg h, if_neg h]; rfl
theorem row_eq {c : ClassId} {f g : Nat → Option Nat} (h : ∀ j, j < 4 → f j = g j) : vp_cell c (4, .inr (.inr (.inr (.inr f)))) = vp_cell c (4, .inr (.inr (.inr (.inr g)))) := by
  rw [vp_cell_q, vp_cell_q]
  unfold arrV
  congr 2
  funext j
  show va_rf (f j.val) = va_rf (g j.val)
  rw [h j.val j.isLt]
set_option maxHeartbeats 4000000 in
set_option maxRecDepth 100000 in
theorem wL_get (cA : Nat → ClassId) (hC : Nat) (qC : Nat → Nat) (hR : Nat) (qR : Nat → Nat) (qJ b : Nat) : ∀ p, p < 77 → ∃ e, (wL cA hC qC hR qR qJ)[p]? = some (adL hC qC hR qR qJ b p, e) := by
  intro p hp
  match p, hp with
  | 0, _ => exact ⟨_, rfl⟩
  | 1, _ => exact ⟨_, rfl⟩
  | 2, _ => exact ⟨_, rfl⟩
  | 3, _ => exact ⟨_, rfl⟩
  | 4, _ => exact ⟨_, rfl⟩
  | 5, _ => exact ⟨_, rfl⟩
  | 6, _ => exact ⟨_, rfl⟩
  | 7, _ => exact ⟨_, rfl⟩
  | 8, _ => exact ⟨_, rfl⟩
  | 9, _ => exact ⟨_, rfl⟩
  | 10, _ => exact ⟨_, rfl⟩
  | 11, _ => exact ⟨_, rfl⟩
  | 12, _ => exact ⟨_, rfl⟩
  | 13, _ => exact ⟨_, rfl⟩
  | 14, _ => exact ⟨_, rfl⟩
  | 15, _ => exact ⟨_, rfl⟩
  | 16, _ => exact ⟨_, rfl⟩
  | 17, _ => exact ⟨_, rfl⟩
  | 18, _ => exact ⟨_, rfl⟩
  | 19, _ => exact ⟨_, rfl⟩
  | 20, _ => exact ⟨_, rfl⟩
  | 21, _ => exact ⟨_, rfl⟩
  | 22, _ => exact ⟨_, rfl⟩
  | 23, _ => exact ⟨_, rfl⟩
  | 24, _ => exact ⟨_, rfl⟩
  | 25, _ => exact ⟨_, rfl⟩
  | 26, _ => exact ⟨_, rfl⟩
  | 27, _ => exact ⟨_, rfl⟩
  | 28, _ => exact ⟨_, rfl⟩
  | 29, _ => exact ⟨_, rfl⟩
  | 30, _ => exact ⟨_, rfl⟩
  | 31, _ => exact ⟨_, rfl⟩
  | 32, _ => exact ⟨_, rfl⟩
  | 33, _ => exact ⟨_, rfl⟩
  | 34, _ => exact ⟨_, rfl⟩
  | 35, _ => exact ⟨_, rfl⟩
  | 36, _ => exact ⟨_, rfl⟩
  | 37, _ => exact ⟨_, rfl⟩
  | 38, _ => exact ⟨_, rfl⟩
  | 39, _ => exact ⟨_, rfl⟩
  | 40, _ => exact ⟨_, rfl⟩
  | 41, _ => exact ⟨_, rfl⟩
  | 42, _ => exact ⟨_, rfl⟩
  | 43, _ => exact ⟨_, rfl⟩
  | 44, _ => exact ⟨_, rfl⟩
  | 45, _ => exact ⟨_, rfl⟩
  | 46, _ => exact ⟨_, rfl⟩
  | 47, _ => exact ⟨_, rfl⟩
  | 48, _ => exact ⟨_, rfl⟩
  | 49, _ => exact ⟨_, rfl⟩
  | 50, _ => exact ⟨_, rfl⟩
  | 51, _ => exact ⟨_, rfl⟩
  | 52, _ => exact ⟨_, rfl⟩
  | 53, _ => exact ⟨_, rfl⟩
  | 54, _ => exact ⟨_, rfl⟩
  | 55, _ => exact ⟨_, rfl⟩
  | 56, _ => exact ⟨_, rfl⟩
  | 57, _ => exact ⟨_, rfl⟩
  | 58, _ => exact ⟨_, rfl⟩
  | 59, _ => exact ⟨_, rfl⟩
  | 60, _ => exact ⟨_, rfl⟩
  | 61, _ => exact ⟨_, rfl⟩
  | 62, _ => exact ⟨_, rfl⟩
  | 63, _ => exact ⟨_, rfl⟩
  | 64, _ => exact ⟨_, rfl⟩
  | 65, _ => exact ⟨_, rfl⟩
  | 66, _ => exact ⟨_, rfl⟩
  | 67, _ => exact ⟨_, rfl⟩
  | 68, _ => exact ⟨_, rfl⟩
  | 69, _ => exact ⟨_, rfl⟩
  | 70, _ => exact ⟨_, rfl⟩
  | 71, _ => exact ⟨_, rfl⟩
  | 72, _ => exact ⟨_, rfl⟩
  | 73, _ => exact ⟨_, rfl⟩
  | 74, _ => exact ⟨_, rfl⟩
  | 75, _ => exact ⟨_, rfl⟩
  | 76, _ => exact ⟨_, rfl⟩
  | p + 77, h => exact absurd h (by omega)
set_option maxHeartbeats 8000000 in
set_option maxRecDepth 100000 in
theorem wL_zW {D : va_G} {cA : Nat → ClassId} {hC : Nat} {qC : Nat → Nat} {hR : Nat} {qR : Nat → Nat} {qJ b : Nat} {H : Heap} (hP : va_P D zcl (wL cA hC qC hR qR qJ) H) : va_P D zcl (zW cA (adL hC qC hR qR qJ b) mL) H := by
  intro k q hk
  obtain ⟨hk1, rfl⟩ := zW_inv hk
  match k, hk1 with
  | 0, _ => exact hP 0 _ rfl
  | 1, _ => exact hP 1 _ rfl
  | 2, _ =>
    have h2 : H[qC 2]? = some (vp_cell (cA 3) (4, .inr (.inr (.inr (.inr (va_up (va_up (va_up (va_up (fun _ => none) (Int32.ofInt 0).toNatClampNeg (some (qC 3))) (Int32.ofInt 1).toNatClampNeg (some (qC 6))) (Int32.ofInt 2).toNatClampNeg (some (qC 9))) (Int32.ofInt 3).toNatClampNeg (some (qC 12)))))))) := hP 2 _ rfl
    rw [row_eq (g := fun j => some (adL hC qC hR qR qJ b (zR 2 j))) (fun j hj => by
      rcases (show j = 0 ∨ j = 1 ∨ j = 2 ∨ j = 3 by omega) with rfl | rfl | rfl | rfl <;> rfl)] at h2
    exact h2
  | 3, _ => exact hP 3 _ rfl
  | 4, _ => exact hP 4 _ rfl
  | 5, _ => exact hP 5 _ rfl
  | 6, _ => exact hP 6 _ rfl
  | 7, _ => exact hP 7 _ rfl
  | 8, _ => exact hP 8 _ rfl
  | 9, _ => exact hP 9 _ rfl
  | 10, _ => exact hP 10 _ rfl
  | 11, _ => exact hP 11 _ rfl
  | 12, _ => exact hP 12 _ rfl
  | 13, _ => exact hP 13 _ rfl
  | 14, _ => exact hP 14 _ rfl
  | 15, _ => exact hP 15 _ rfl
  | 16, _ => exact hP 16 _ rfl
  | 17, _ => exact hP 17 _ rfl
  | 18, _ => exact hP 18 _ rfl
  | 19, _ => exact hP 19 _ rfl
  | 20, _ => exact hP 20 _ rfl
  | 21, _ => exact hP 21 _ rfl
  | 22, _ => exact hP 22 _ rfl
  | 23, _ => exact hP 23 _ rfl
  | 24, _ => exact hP 24 _ rfl
  | 25, _ => exact hP 25 _ rfl
  | 26, _ => exact hP 26 _ rfl
  | 27, _ => exact hP 27 _ rfl
  | 28, _ => exact hP 28 _ rfl
  | 29, _ => exact hP 29 _ rfl
  | 30, _ => exact hP 30 _ rfl
  | 31, _ => exact hP 31 _ rfl
  | 32, _ => exact hP 32 _ rfl
  | 33, _ => exact hP 33 _ rfl
  | 34, _ => exact hP 34 _ rfl
  | 35, _ => exact hP 35 _ rfl
  | 36, _ => exact hP 36 _ rfl
  | 37, _ => exact hP 37 _ rfl
  | 38, _ => exact hP 38 _ rfl
  | 39, _ => exact hP 39 _ rfl
  | 40, _ => exact hP 40 _ rfl
  | 41, _ => exact hP 41 _ rfl
  | 42, _ => exact hP 42 _ rfl
  | 43, _ => exact hP 43 _ rfl
  | 44, _ => exact hP 44 _ rfl
  | 45, _ => exact hP 45 _ rfl
  | 46, _ => exact hP 46 _ rfl
  | 47, _ => exact hP 47 _ rfl
  | 48, _ => exact hP 48 _ rfl
  | 49, _ => exact hP 49 _ rfl
  | 50, _ => exact hP 50 _ rfl
  | 51, _ => exact hP 51 _ rfl
  | 52, _ => exact hP 52 _ rfl
  | 53, _ => exact hP 53 _ rfl
  | 54, _ => exact hP 54 _ rfl
  | 55, _ => exact hP 55 _ rfl
  | 56, _ => exact hP 56 _ rfl
  | 57, _ =>
    have h57 : H[qR 5]? = some (vp_cell (cA 0) (288, .inl (eRk 288))) := hP 57 _ rfl
    rw [← mL_57] at h57
    exact h57
  | 58, _ => exact hP 58 _ rfl
  | 59, _ => exact hP 59 _ rfl
  | 60, _ => exact hP 60 _ rfl
  | 61, _ => exact hP 61 _ rfl
  | 62, _ => exact hP 62 _ rfl
  | 63, _ => exact hP 63 _ rfl
  | 64, _ => exact hP 64 _ rfl
  | 65, _ => exact hP 65 _ rfl
  | 66, _ => exact hP 66 _ rfl
  | 67, _ => exact hP 67 _ rfl
  | 68, _ => exact hP 68 _ rfl
  | 69, _ => exact hP 69 _ rfl
  | 70, _ => exact hP 70 _ rfl
  | 71, _ => exact hP 71 _ rfl
  | 72, _ => exact hP 72 _ rfl
  | 73, _ => exact hP 73 _ rfl
  | 74, _ => exact hP 74 _ rfl
  | 75, _ => exact hP 75 _ rfl
  | 76, _ => exact hP 76 _ rfl
  | k + 77, h => exact absurd h (by unfold zN; omega)
