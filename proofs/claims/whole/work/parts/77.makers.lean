theorem uI_A : ∀ w ∈ u_ws n_A T_A 4, w ∈ wI := wImems [75, 77, 79, 81] (by decide +kernel) (by decide +kernel)
theorem df_A : ∀ j, j < 4 → defaultValue (t_A j) = vp_V [.null, .int 0, .int 0, .int 0] j := fun j hj => by rcases (show j = 0 ∨ j = 1 ∨ j = 2 ∨ j = 3 by omega) with rfl | rfl | rfl | rfl <;> rfl
theorem uI_M : ∀ w ∈ u_ws n_M T_M 8, w ∈ wI := wImems [50, 52, 54, 56, 58, 60, 62, 64] (by decide +kernel) (by decide +kernel)
theorem df_M : ∀ j, j < 8 → defaultValue (t_M j) = vp_V [.int 0, .int 0, .int 0, .int 0, .int 0, .int 0, .null, .null] j := fun j hj => by rcases (show j = 0 ∨ j = 1 ∨ j = 2 ∨ j = 3 ∨ j = 4 ∨ j = 5 ∨ j = 6 ∨ j = 7 by omega) with rfl | rfl | rfl | rfl | rfl | rfl | rfl | rfl <;> rfl
theorem uI_G : ∀ w ∈ u_ws n_G T_G 11, w ∈ wI := wImems [110, 112, 114, 116, 118, 120, 122, 124, 126, 128, 130] (by decide +kernel) (by decide +kernel)
theorem df_G : ∀ j, j < 11 → defaultValue (t_G j) = vp_V [.int 0, .null, .null, .null, .null, .null, .null, .null, .null, .null, .null] j := fun j hj => by rcases (show j = 0 ∨ j = 1 ∨ j = 2 ∨ j = 3 ∨ j = 4 ∨ j = 5 ∨ j = 6 ∨ j = 7 ∨ j = 8 ∨ j = 9 ∨ j = 10 by omega) with rfl | rfl | rfl | rfl | rfl | rfl | rfl | rfl | rfl | rfl | rfl <;> rfl
theorem uI_P : ∀ w ∈ u_ws n_P T_P 3, w ∈ wI := wImems [165, 167, 169] (by decide +kernel) (by decide +kernel)
theorem df_P : ∀ j, j < 3 → defaultValue (t_P j) = vp_V [.null, .null, .null] j := fun j hj => by rcases (show j = 0 ∨ j = 1 ∨ j = 2 by omega) with rfl | rfl | rfl <;> rfl
theorem uI_S : ∀ w ∈ u_ws n_S T_S 9, w ∈ wI := wImems [200, 202, 204, 206, 208, 210, 212, 214, 216] (by decide +kernel) (by decide +kernel)
theorem df_S : ∀ j, j < 9 → defaultValue (t_S j) = vp_V [.int 0, .int 0, .int 0, .int 0, .null, .null, .null, .null, .null] j := fun j hj => by rcases (show j = 0 ∨ j = 1 ∨ j = 2 ∨ j = 3 ∨ j = 4 ∨ j = 5 ∨ j = 6 ∨ j = 7 ∨ j = 8 by omega) with rfl | rfl | rfl | rfl | rfl | rfl | rfl | rfl | rfl <;> rfl
theorem uI_Y : ∀ w ∈ u_ws n_Y T_Y 5, w ∈ wI := wImems [145, 147, 149, 151, 153] (by decide +kernel) (by decide +kernel)
theorem df_Y : ∀ j, j < 5 → defaultValue (t_Y j) = vp_V [.null, .null, .null, .null, .null] j := fun j hj => by rcases (show j = 0 ∨ j = 1 ∨ j = 2 ∨ j = 3 ∨ j = 4 by omega) with rfl | rfl | rfl | rfl | rfl <;> rfl
theorem uI_C : ∀ w ∈ u_ws n_C T_C 8, w ∈ wI := wImems [227, 229, 231, 233, 235, 237, 239, 241] (by decide +kernel) (by decide +kernel)
theorem df_C : ∀ j, j < 8 → defaultValue (t_C j) = vp_V [.null, .null, .null, .null, .null, .null, .int 0, .int 0] j := fun j hj => by rcases (show j = 0 ∨ j = 1 ∨ j = 2 ∨ j = 3 ∨ j = 4 ∨ j = 5 ∨ j = 6 ∨ j = 7 by omega) with rfl | rfl | rfl | rfl | rfl | rfl | rfl | rfl <;> rfl
theorem uI_R : ∀ w ∈ u_ws n_R T_R 32, w ∈ wI := wImems [744, 746, 748, 750, 752, 754, 756, 758, 760, 762, 764, 766, 768, 770, 772, 774, 776, 778, 780, 782, 784, 786, 788, 790, 792, 794, 796, 798, 800, 802, 804, 806] (by decide +kernel) (by decide +kernel)
theorem df_R : ∀ j, j < 32 → defaultValue (t_R j) = vp_V [.int 0, .int 0, .null, .null, .null, .null, .null, .null, .null, .null, .null, .null, .null, .null, .null, .null, .null, .int 0, .int 0, .null, .null, .null, .null, .null, .null, .int 0, .int 0, .null, .int 0, .int 0, .null, .null] j := fun j hj => by rcases (show j = 0 ∨ j = 1 ∨ j = 2 ∨ j = 3 ∨ j = 4 ∨ j = 5 ∨ j = 6 ∨ j = 7 ∨ j = 8 ∨ j = 9 ∨ j = 10 ∨ j = 11 ∨ j = 12 ∨ j = 13 ∨ j = 14 ∨ j = 15 ∨ j = 16 ∨ j = 17 ∨ j = 18 ∨ j = 19 ∨ j = 20 ∨ j = 21 ∨ j = 22 ∨ j = 23 ∨ j = 24 ∨ j = 25 ∨ j = 26 ∨ j = 27 ∨ j = 28 ∨ j = 29 ∨ j = 30 ∨ j = 31 by omega) with rfl | rfl | rfl | rfl | rfl | rfl | rfl | rfl | rfl | rfl | rfl | rfl | rfl | rfl | rfl | rfl | rfl | rfl | rfl | rfl | rfl | rfl | rfl | rfl | rfl | rfl | rfl | rfl | rfl | rfl | rfl | rfl <;> rfl
def eR (j : Nat) : Int32 := if j < 288 then -1 else 0
abbrev w_M_post (cA : Nat → ClassId) (h0  : Nat) (q : Nat → Nat) : va_W := [(h0, .inr (1, [.int 0, .int 0, .int 0, .int 0, .int 0, .int 0, .ref (q 0), .ref (q 1)])), (q 0, .inl (cA 0, 6, .inl (fun _ => 0))), (q 1, .inl (cA 0, 72, .inl (fun _ => 0)))]
def w_M_init : List Cond := Cond.code y_M_init b_M_init 1 none :: wI
set_option maxHeartbeats 4000000 in
set_option maxRecDepth 100000 in
theorem c_M_init (l : Launch) (D : va_G) (cA : Nat → ClassId) (h0  sz : Nat) : Met l y_M_init w_M_init ({ frames := 1, cells := 2, slots := 78, locals := 12 }) (va_Pc [.ref h0] (fun U => U.heap.size = sz ∧ va_P D zcl [(h0, .inr (1, [.int 0, .int 0, .int 0, .int 0, .int 0, .int 0, .null, .null]))] U.heap ∧ va_K D zcl (zty cA) U ∧ va_D (fun _ => True) [(h0, .inr (1, [.int 0, .int 0, .int 0, .int 0, .int 0, .int 0, .null, .null]))] ∧ zNw U)) (va_Qv (fun q : Nat → Nat => True) (fun q t => va_P D zcl (w_M_post cA h0  q) t.heap ∧ va_D (va_A [(h0, .inr (1, [.int 0, .int 0, .int 0, .int 0, .int 0, .int 0, .null, .null]))] sz) (w_M_post cA h0  q)) (va_A [(h0, .inr (1, [.int 0, .int 0, .int 0, .int 0, .int 0, .int 0, .null, .null]))] sz)) 2 78 (va_A [(h0, .inr (1, [.int 0, .int 0, .int 0, .int 0, .int 0, .int 0, .null, .null]))] sz) := by
  refine Met.ofW (cc := b_M_init) (maxL := 1) (ret := none) (by decide) rfl ?_
  intro p e s m args below meth c s₁ B hml hv
  obtain ⟨rfl, hsz, hP, hK, hD0, hNw⟩ := hv
  have hx := B.exec
  have hb := B.bytes
  have hr := B.returns
  have hts := atoms_spec (ws := w_M_init) B.pre
  have hown : s.vm.findClass n_M = some m.cls := findClass_of_methodNamed B.named
  have hlocks := B.notSynchronized
  have hin : meth.name = "<init>" := (name_of_methodNamed B.named B.method).1
  subst hsz
  have hD := hD0.self (sz := s.heap.size)
  generalize hAe : va_A [(h0, .inr (1, [.int 0, .int 0, .int 0, .int 0, .int 0, .int 0, .null, .null]))] s.heap.size = A at hD ⊢
  have hA : ∀ q : Nat, s.heap.size ≤ q → A q := fun q h => by rw [← hAe]; exact Or.inr h
  have hS : va_S A s.heap s.heap [] := va_S.rf
  have hP : va_P D zcl [(h0, .inr (1, [.int 0, .int 0, .int 0, .int 0, .int 0, .int 0, .null, .null]))] s.heap := hP
  have hl := lv_entry ([.ref h0]) (n := 1) (Nat.le_of_ble_eq_true rfl)
  rw [lg_entry_eq]
  generalize (lg_sl ([.ref h0]) ++ List.replicate (1 - (lg_sl ([.ref h0])).length) Slot.unset).toArray = ls at hl ⊢
  have hl : lv_has ls 1 [(0, .ref h0)] := hl
  refine lv_aload_n hx hb d_M_init_0 rfl (lv_at hl 0 rfl) ?_
  refine W.objInit hx hb hown (hts (.methodLink n_M 3 objectInit) (List.mem_cons_of_mem _ (wImem 35 (by decide +kernel) rfl))) (hts (.instanceMethod objectInit) (List.mem_cons_of_mem _ (wImem 21 (by decide +kernel) rfl))) (hts (.code objectInit ⟨#[0xb1]⟩ 1 none) (List.mem_cons_of_mem _ (wImem 22 (by decide +kernel) rfl))) rfl (by rw [hml]; exact hl.1) rfl d_M_init_1 (Nat.le_of_ble_eq_true rfl) (Nat.le_of_ble_eq_true rfl) ?_
  refine W.eq (g2 := F0 m 4 ls []) rfl ?_
  refine lv_aload_n hx hb d_M_init_4 rfl (lv_at hl 0 rfl) ?_
  refine lv_bipush (v := Int32.ofInt 6) hx hb d_M_init_5 rfl ?_
  refine zn_int hx hb (hts (.arrayClass .int) (List.mem_cons_of_mem _ (wImem 67 (by decide +kernel) rfl))) hK hP hD hS hA 6 (by decide) (by decide) (by decide) (by decide) (by decide) d_M_init_7 (fun q7 H hP hD hS => ?_)
  have hP : va_P D zcl [(h0, .inr (1, [.int 0, .int 0, .int 0, .int 0, .int 0, .int 0, .null, .null])), (q7, .inl (cA 0, 6, .inl (fun _ => 0)))] H := hP
  have hD : va_D A [(h0, .inr (1, [.int 0, .int 0, .int 0, .int 0, .int 0, .int 0, .null, .null])), (q7, .inl (cA 0, 6, .inl (fun _ => 0)))] := hD
  refine va_putF (D := D) (ci := 1) (v := .ref q7) (ty := .array .int) (C := n_M) (T := T_M) (N := 8) hx hb hts (fun w h => List.mem_cons_of_mem _ (uI_M w h)) t_M t_M_ok nm_M hown hK hP hD hS 0 rfl rfl 6 (by decide) (hts (.fieldLink n_M 9 n_M "eventsFrom" "[I") (List.mem_cons_of_mem _ (wImem 48 (by decide +kernel) rfl))) (fun _ h9 => h9) rfl hin rfl (by decide +kernel) rfl rfl (Nat.le_of_ble_eq_true rfl) d_M_init_9 (fun H locs hP hD hS => ?_)
  have hP : va_P D zcl [(h0, .inr (1, [.int 0, .int 0, .int 0, .int 0, .int 0, .int 0, .ref q7, .null])), (q7, .inl (cA 0, 6, .inl (fun _ => 0)))] H := hP
  have hD : va_D A [(h0, .inr (1, [.int 0, .int 0, .int 0, .int 0, .int 0, .int 0, .ref q7, .null])), (q7, .inl (cA 0, 6, .inl (fun _ => 0)))] := hD
  refine lv_aload_n hx hb d_M_init_12 rfl (lv_at hl 0 rfl) ?_
  refine lv_bipush (v := Int32.ofInt 72) hx hb d_M_init_13 rfl ?_
  refine zn_int hx hb (hts (.arrayClass .int) (List.mem_cons_of_mem _ (wImem 67 (by decide +kernel) rfl))) hK hP hD hS hA 72 (by decide) (by decide) (by decide) (by decide) (by decide) d_M_init_15 (fun q15 H hP hD hS => ?_)
  have hP : va_P D zcl [(h0, .inr (1, [.int 0, .int 0, .int 0, .int 0, .int 0, .int 0, .ref q7, .null])), (q7, .inl (cA 0, 6, .inl (fun _ => 0))), (q15, .inl (cA 0, 72, .inl (fun _ => 0)))] H := hP
  have hD : va_D A [(h0, .inr (1, [.int 0, .int 0, .int 0, .int 0, .int 0, .int 0, .ref q7, .null])), (q7, .inl (cA 0, 6, .inl (fun _ => 0))), (q15, .inl (cA 0, 72, .inl (fun _ => 0)))] := hD
  refine va_putF (D := D) (ci := 1) (v := .ref q15) (ty := .array .int) (C := n_M) (T := T_M) (N := 8) hx hb hts (fun w h => List.mem_cons_of_mem _ (uI_M w h)) t_M t_M_ok nm_M hown hK hP hD hS 0 rfl rfl 7 (by decide) (hts (.fieldLink n_M 15 n_M "targets" "[I") (List.mem_cons_of_mem _ (wImem 49 (by decide +kernel) rfl))) (fun _ h9 => h9) rfl hin rfl (by decide +kernel) rfl rfl (Nat.le_of_ble_eq_true rfl) d_M_init_17 (fun H locs hP hD hS => ?_)
  have hP : va_P D zcl [(h0, .inr (1, [.int 0, .int 0, .int 0, .int 0, .int 0, .int 0, .ref q7, .ref q15])), (q7, .inl (cA 0, 6, .inl (fun _ => 0))), (q15, .inl (cA 0, 72, .inl (fun _ => 0)))] H := hP
  have hD : va_D A [(h0, .inr (1, [.int 0, .int 0, .int 0, .int 0, .int 0, .int 0, .ref q7, .ref q15])), (q7, .inl (cA 0, 6, .inl (fun _ => 0))), (q15, .inl (cA 0, 72, .inl (fun _ => 0)))] := hD
  refine W.widen (k := 2) (n := 78) (by decide) (by decide) ?_
  exact W.vret hx hb hr (fun t ht hW => ⟨⟨fun k => [q7, q15].getD k 0, rfl, trivial, by rw [ht]; exact hP, hD⟩, hS.F ht⟩) hS.2.2 d_M_init_20
abbrev w_S_post (cA : Nat → ClassId) (h0  : Nat) (q : Nat → Nat) : va_W := [(h0, .inr (4, [.int 0, .int 0, .int 0, .int 0, .ref (q 0), .ref (q 1), .ref (q 2), .ref (q 3), .ref (q 4)])), (q 0, .inl (cA 0, 201, .inl (fun _ => 0))), (q 1, .inl (cA 0, 201, .inl (fun _ => 0))), (q 2, .inl (cA 0, 201, .inl (fun _ => 0))), (q 3, .inl (cA 0, 201, .inl (fun _ => 0))), (q 4, .inl (cA 0, 2412, .inl (fun _ => 0)))]
def w_S_init : List Cond := Cond.code y_S_init b_S_init 1 none :: wI
set_option maxHeartbeats 4000000 in
set_option maxRecDepth 100000 in
theorem c_S_init (l : Launch) (D : va_G) (cA : Nat → ClassId) (h0  sz : Nat) : Met l y_S_init w_S_init ({ frames := 1, cells := 5, slots := 3216, locals := 12 }) (va_Pc [.ref h0] (fun U => U.heap.size = sz ∧ va_P D zcl [(h0, .inr (4, [.int 0, .int 0, .int 0, .int 0, .null, .null, .null, .null, .null]))] U.heap ∧ va_K D zcl (zty cA) U ∧ va_D (fun _ => True) [(h0, .inr (4, [.int 0, .int 0, .int 0, .int 0, .null, .null, .null, .null, .null]))] ∧ zNw U)) (va_Qv (fun q : Nat → Nat => True) (fun q t => va_P D zcl (w_S_post cA h0  q) t.heap ∧ va_D (va_A [(h0, .inr (4, [.int 0, .int 0, .int 0, .int 0, .null, .null, .null, .null, .null]))] sz) (w_S_post cA h0  q)) (va_A [(h0, .inr (4, [.int 0, .int 0, .int 0, .int 0, .null, .null, .null, .null, .null]))] sz)) 5 3216 (va_A [(h0, .inr (4, [.int 0, .int 0, .int 0, .int 0, .null, .null, .null, .null, .null]))] sz) := by
  refine Met.ofW (cc := b_S_init) (maxL := 1) (ret := none) (by decide) rfl ?_
  intro p e s m args below meth c s₁ B hml hv
  obtain ⟨rfl, hsz, hP, hK, hD0, hNw⟩ := hv
  have hx := B.exec
  have hb := B.bytes
  have hr := B.returns
  have hts := atoms_spec (ws := w_S_init) B.pre
  have hown : s.vm.findClass n_S = some m.cls := findClass_of_methodNamed B.named
  have hlocks := B.notSynchronized
  have hin : meth.name = "<init>" := (name_of_methodNamed B.named B.method).1
  subst hsz
  have hD := hD0.self (sz := s.heap.size)
  generalize hAe : va_A [(h0, .inr (4, [.int 0, .int 0, .int 0, .int 0, .null, .null, .null, .null, .null]))] s.heap.size = A at hD ⊢
  have hA : ∀ q : Nat, s.heap.size ≤ q → A q := fun q h => by rw [← hAe]; exact Or.inr h
  have hS : va_S A s.heap s.heap [] := va_S.rf
  have hP : va_P D zcl [(h0, .inr (4, [.int 0, .int 0, .int 0, .int 0, .null, .null, .null, .null, .null]))] s.heap := hP
  have hl := lv_entry ([.ref h0]) (n := 1) (Nat.le_of_ble_eq_true rfl)
  rw [lg_entry_eq]
  generalize (lg_sl ([.ref h0]) ++ List.replicate (1 - (lg_sl ([.ref h0])).length) Slot.unset).toArray = ls at hl ⊢
  have hl : lv_has ls 1 [(0, .ref h0)] := hl
  refine lv_aload_n hx hb d_S_init_0 rfl (lv_at hl 0 rfl) ?_
  refine W.objInit hx hb hown (hts (.methodLink n_S 3 objectInit) (List.mem_cons_of_mem _ (wImem 177 (by decide +kernel) rfl))) (hts (.instanceMethod objectInit) (List.mem_cons_of_mem _ (wImem 21 (by decide +kernel) rfl))) (hts (.code objectInit ⟨#[0xb1]⟩ 1 none) (List.mem_cons_of_mem _ (wImem 22 (by decide +kernel) rfl))) rfl (by rw [hml]; exact hl.1) rfl d_S_init_1 (Nat.le_of_ble_eq_true rfl) (Nat.le_of_ble_eq_true rfl) ?_
  refine W.eq (g2 := F0 m 4 ls []) rfl ?_
  refine lv_aload_n hx hb d_S_init_4 rfl (lv_at hl 0 rfl) ?_
  refine lv_sipush (v := Int32.ofInt 201) hx hb d_S_init_5 rfl ?_
  refine zn_int hx hb (hts (.arrayClass .int) (List.mem_cons_of_mem _ (wImem 67 (by decide +kernel) rfl))) hK hP hD hS hA 201 (by decide) (by decide) (by decide) (by decide) (by decide) d_S_init_8 (fun q8 H hP hD hS => ?_)
  have hP : va_P D zcl [(h0, .inr (4, [.int 0, .int 0, .int 0, .int 0, .null, .null, .null, .null, .null])), (q8, .inl (cA 0, 201, .inl (fun _ => 0)))] H := hP
  have hD : va_D A [(h0, .inr (4, [.int 0, .int 0, .int 0, .int 0, .null, .null, .null, .null, .null])), (q8, .inl (cA 0, 201, .inl (fun _ => 0)))] := hD
  refine va_putF (D := D) (ci := 4) (v := .ref q8) (ty := .array .int) (C := n_S) (T := T_S) (N := 9) hx hb hts (fun w h => List.mem_cons_of_mem _ (uI_S w h)) t_S t_S_ok nm_S hown hK hP hD hS 0 rfl rfl 4 (by decide) (hts (.fieldLink n_S 9 n_S "wordBackwards" "[I") (List.mem_cons_of_mem _ (wImem 186 (by decide +kernel) rfl))) (fun _ h9 => h9) rfl hin rfl (by decide +kernel) rfl rfl (Nat.le_of_ble_eq_true rfl) d_S_init_10 (fun H locs hP hD hS => ?_)
  have hP : va_P D zcl [(h0, .inr (4, [.int 0, .int 0, .int 0, .int 0, .ref q8, .null, .null, .null, .null])), (q8, .inl (cA 0, 201, .inl (fun _ => 0)))] H := hP
  have hD : va_D A [(h0, .inr (4, [.int 0, .int 0, .int 0, .int 0, .ref q8, .null, .null, .null, .null])), (q8, .inl (cA 0, 201, .inl (fun _ => 0)))] := hD
  refine lv_aload_n hx hb d_S_init_13 rfl (lv_at hl 0 rfl) ?_
  refine lv_sipush (v := Int32.ofInt 201) hx hb d_S_init_14 rfl ?_
  refine zn_int hx hb (hts (.arrayClass .int) (List.mem_cons_of_mem _ (wImem 67 (by decide +kernel) rfl))) hK hP hD hS hA 201 (by decide) (by decide) (by decide) (by decide) (by decide) d_S_init_17 (fun q17 H hP hD hS => ?_)
  have hP : va_P D zcl [(h0, .inr (4, [.int 0, .int 0, .int 0, .int 0, .ref q8, .null, .null, .null, .null])), (q8, .inl (cA 0, 201, .inl (fun _ => 0))), (q17, .inl (cA 0, 201, .inl (fun _ => 0)))] H := hP
  have hD : va_D A [(h0, .inr (4, [.int 0, .int 0, .int 0, .int 0, .ref q8, .null, .null, .null, .null])), (q8, .inl (cA 0, 201, .inl (fun _ => 0))), (q17, .inl (cA 0, 201, .inl (fun _ => 0)))] := hD
  refine va_putF (D := D) (ci := 4) (v := .ref q17) (ty := .array .int) (C := n_S) (T := T_S) (N := 9) hx hb hts (fun w h => List.mem_cons_of_mem _ (uI_S w h)) t_S t_S_ok nm_S hown hK hP hD hS 0 rfl rfl 5 (by decide) (hts (.fieldLink n_S 15 n_S "code" "[I") (List.mem_cons_of_mem _ (wImem 189 (by decide +kernel) rfl))) (fun _ h9 => h9) rfl hin rfl (by decide +kernel) rfl rfl (Nat.le_of_ble_eq_true rfl) d_S_init_19 (fun H locs hP hD hS => ?_)
  have hP : va_P D zcl [(h0, .inr (4, [.int 0, .int 0, .int 0, .int 0, .ref q8, .ref q17, .null, .null, .null])), (q8, .inl (cA 0, 201, .inl (fun _ => 0))), (q17, .inl (cA 0, 201, .inl (fun _ => 0)))] H := hP
  have hD : va_D A [(h0, .inr (4, [.int 0, .int 0, .int 0, .int 0, .ref q8, .ref q17, .null, .null, .null])), (q8, .inl (cA 0, 201, .inl (fun _ => 0))), (q17, .inl (cA 0, 201, .inl (fun _ => 0)))] := hD
  refine lv_aload_n hx hb d_S_init_22 rfl (lv_at hl 0 rfl) ?_
  refine lv_sipush (v := Int32.ofInt 201) hx hb d_S_init_23 rfl ?_
  refine zn_int hx hb (hts (.arrayClass .int) (List.mem_cons_of_mem _ (wImem 67 (by decide +kernel) rfl))) hK hP hD hS hA 201 (by decide) (by decide) (by decide) (by decide) (by decide) d_S_init_26 (fun q26 H hP hD hS => ?_)
  have hP : va_P D zcl [(h0, .inr (4, [.int 0, .int 0, .int 0, .int 0, .ref q8, .ref q17, .null, .null, .null])), (q8, .inl (cA 0, 201, .inl (fun _ => 0))), (q17, .inl (cA 0, 201, .inl (fun _ => 0))), (q26, .inl (cA 0, 201, .inl (fun _ => 0)))] H := hP
  have hD : va_D A [(h0, .inr (4, [.int 0, .int 0, .int 0, .int 0, .ref q8, .ref q17, .null, .null, .null])), (q8, .inl (cA 0, 201, .inl (fun _ => 0))), (q17, .inl (cA 0, 201, .inl (fun _ => 0))), (q26, .inl (cA 0, 201, .inl (fun _ => 0)))] := hD
  refine va_putF (D := D) (ci := 4) (v := .ref q26) (ty := .array .int) (C := n_S) (T := T_S) (N := 9) hx hb hts (fun w h => List.mem_cons_of_mem _ (uI_S w h)) t_S t_S_ok nm_S hown hK hP hD hS 0 rfl rfl 6 (by decide) (hts (.fieldLink n_S 18 n_S "eventsOfPlants" "[I") (List.mem_cons_of_mem _ (wImem 193 (by decide +kernel) rfl))) (fun _ h9 => h9) rfl hin rfl (by decide +kernel) rfl rfl (Nat.le_of_ble_eq_true rfl) d_S_init_28 (fun H locs hP hD hS => ?_)
  have hP : va_P D zcl [(h0, .inr (4, [.int 0, .int 0, .int 0, .int 0, .ref q8, .ref q17, .ref q26, .null, .null])), (q8, .inl (cA 0, 201, .inl (fun _ => 0))), (q17, .inl (cA 0, 201, .inl (fun _ => 0))), (q26, .inl (cA 0, 201, .inl (fun _ => 0)))] H := hP
  have hD : va_D A [(h0, .inr (4, [.int 0, .int 0, .int 0, .int 0, .ref q8, .ref q17, .ref q26, .null, .null])), (q8, .inl (cA 0, 201, .inl (fun _ => 0))), (q17, .inl (cA 0, 201, .inl (fun _ => 0))), (q26, .inl (cA 0, 201, .inl (fun _ => 0)))] := hD
  refine lv_aload_n hx hb d_S_init_31 rfl (lv_at hl 0 rfl) ?_
  refine lv_sipush (v := Int32.ofInt 201) hx hb d_S_init_32 rfl ?_
  refine zn_int hx hb (hts (.arrayClass .int) (List.mem_cons_of_mem _ (wImem 67 (by decide +kernel) rfl))) hK hP hD hS hA 201 (by decide) (by decide) (by decide) (by decide) (by decide) d_S_init_35 (fun q35 H hP hD hS => ?_)
  have hP : va_P D zcl [(h0, .inr (4, [.int 0, .int 0, .int 0, .int 0, .ref q8, .ref q17, .ref q26, .null, .null])), (q8, .inl (cA 0, 201, .inl (fun _ => 0))), (q17, .inl (cA 0, 201, .inl (fun _ => 0))), (q26, .inl (cA 0, 201, .inl (fun _ => 0))), (q35, .inl (cA 0, 201, .inl (fun _ => 0)))] H := hP
  have hD : va_D A [(h0, .inr (4, [.int 0, .int 0, .int 0, .int 0, .ref q8, .ref q17, .ref q26, .null, .null])), (q8, .inl (cA 0, 201, .inl (fun _ => 0))), (q17, .inl (cA 0, 201, .inl (fun _ => 0))), (q26, .inl (cA 0, 201, .inl (fun _ => 0))), (q35, .inl (cA 0, 201, .inl (fun _ => 0)))] := hD
  refine va_putF (D := D) (ci := 4) (v := .ref q35) (ty := .array .int) (C := n_S) (T := T_S) (N := 9) hx hb hts (fun w h => List.mem_cons_of_mem _ (uI_S w h)) t_S t_S_ok nm_S hown hK hP hD hS 0 rfl rfl 7 (by decide) (hts (.fieldLink n_S 21 n_S "toMarked" "[I") (List.mem_cons_of_mem _ (wImem 195 (by decide +kernel) rfl))) (fun _ h9 => h9) rfl hin rfl (by decide +kernel) rfl rfl (Nat.le_of_ble_eq_true rfl) d_S_init_37 (fun H locs hP hD hS => ?_)
  have hP : va_P D zcl [(h0, .inr (4, [.int 0, .int 0, .int 0, .int 0, .ref q8, .ref q17, .ref q26, .ref q35, .null])), (q8, .inl (cA 0, 201, .inl (fun _ => 0))), (q17, .inl (cA 0, 201, .inl (fun _ => 0))), (q26, .inl (cA 0, 201, .inl (fun _ => 0))), (q35, .inl (cA 0, 201, .inl (fun _ => 0)))] H := hP
  have hD : va_D A [(h0, .inr (4, [.int 0, .int 0, .int 0, .int 0, .ref q8, .ref q17, .ref q26, .ref q35, .null])), (q8, .inl (cA 0, 201, .inl (fun _ => 0))), (q17, .inl (cA 0, 201, .inl (fun _ => 0))), (q26, .inl (cA 0, 201, .inl (fun _ => 0))), (q35, .inl (cA 0, 201, .inl (fun _ => 0)))] := hD
  refine lv_aload_n hx hb d_S_init_40 rfl (lv_at hl 0 rfl) ?_
  refine lv_sipush (v := Int32.ofInt 2412) hx hb d_S_init_41 rfl ?_
  refine zn_int hx hb (hts (.arrayClass .int) (List.mem_cons_of_mem _ (wImem 67 (by decide +kernel) rfl))) hK hP hD hS hA 2412 (by decide) (by decide) (by decide) (by decide) (by decide) d_S_init_44 (fun q44 H hP hD hS => ?_)
  have hP : va_P D zcl [(h0, .inr (4, [.int 0, .int 0, .int 0, .int 0, .ref q8, .ref q17, .ref q26, .ref q35, .null])), (q8, .inl (cA 0, 201, .inl (fun _ => 0))), (q17, .inl (cA 0, 201, .inl (fun _ => 0))), (q26, .inl (cA 0, 201, .inl (fun _ => 0))), (q35, .inl (cA 0, 201, .inl (fun _ => 0))), (q44, .inl (cA 0, 2412, .inl (fun _ => 0)))] H := hP
  have hD : va_D A [(h0, .inr (4, [.int 0, .int 0, .int 0, .int 0, .ref q8, .ref q17, .ref q26, .ref q35, .null])), (q8, .inl (cA 0, 201, .inl (fun _ => 0))), (q17, .inl (cA 0, 201, .inl (fun _ => 0))), (q26, .inl (cA 0, 201, .inl (fun _ => 0))), (q35, .inl (cA 0, 201, .inl (fun _ => 0))), (q44, .inl (cA 0, 2412, .inl (fun _ => 0)))] := hD
  refine va_putF (D := D) (ci := 4) (v := .ref q44) (ty := .array .int) (C := n_S) (T := T_S) (N := 9) hx hb hts (fun w h => List.mem_cons_of_mem _ (uI_S w h)) t_S t_S_ok nm_S hown hK hP hD hS 0 rfl rfl 8 (by decide) (hts (.fieldLink n_S 24 n_S "targets" "[I") (List.mem_cons_of_mem _ (wImem 198 (by decide +kernel) rfl))) (fun _ h9 => h9) rfl hin rfl (by decide +kernel) rfl rfl (Nat.le_of_ble_eq_true rfl) d_S_init_46 (fun H locs hP hD hS => ?_)
  have hP : va_P D zcl [(h0, .inr (4, [.int 0, .int 0, .int 0, .int 0, .ref q8, .ref q17, .ref q26, .ref q35, .ref q44])), (q8, .inl (cA 0, 201, .inl (fun _ => 0))), (q17, .inl (cA 0, 201, .inl (fun _ => 0))), (q26, .inl (cA 0, 201, .inl (fun _ => 0))), (q35, .inl (cA 0, 201, .inl (fun _ => 0))), (q44, .inl (cA 0, 2412, .inl (fun _ => 0)))] H := hP
  have hD : va_D A [(h0, .inr (4, [.int 0, .int 0, .int 0, .int 0, .ref q8, .ref q17, .ref q26, .ref q35, .ref q44])), (q8, .inl (cA 0, 201, .inl (fun _ => 0))), (q17, .inl (cA 0, 201, .inl (fun _ => 0))), (q26, .inl (cA 0, 201, .inl (fun _ => 0))), (q35, .inl (cA 0, 201, .inl (fun _ => 0))), (q44, .inl (cA 0, 2412, .inl (fun _ => 0)))] := hD
  refine W.widen (k := 5) (n := 3216) (by decide) (by decide) ?_
  exact W.vret hx hb hr (fun t ht hW => ⟨⟨fun k => [q8, q17, q26, q35, q44].getD k 0, rfl, trivial, by rw [ht]; exact hP, hD⟩, hS.F ht⟩) hS.2.2 d_S_init_49
abbrev w_G_post (cA : Nat → ClassId) (h0  : Nat) (q : Nat → Nat) : va_W := [(h0, .inr (2, [.int 0, .ref (q 0), .ref (q 1), .ref (q 2), .ref (q 3), .ref (q 4), .ref (q 5), .ref (q 6), .ref (q 7), .ref (q 8), .ref (q 9)])), (q 0, .inl (cA 0, 4096, .inl (fun _ => 0))), (q 1, .inl (cA 0, 201, .inl (fun _ => 0))), (q 2, .inl (cA 1, 201, .inl (fun _ => 0))), (q 3, .inl (cA 1, 201, .inl (fun _ => 0))), (q 4, .inl (cA 0, 201, .inl (fun _ => 0))), (q 5, .inl (cA 0, 201, .inl (fun _ => 0))), (q 6, .inl (cA 0, 2412, .inl (fun _ => 0))), (q 7, .inl (cA 0, 201, .inl (fun _ => 0))), (q 8, .inl (cA 0, 2412, .inl (fun _ => 0))), (q 9, .inl (cA 0, 201, .inl (fun _ => 0)))]
def w_G_init : List Cond := Cond.code y_G_init b_G_init 1 none :: wI
set_option maxHeartbeats 4000000 in
set_option maxRecDepth 100000 in
theorem c_G_init (l : Launch) (D : va_G) (cA : Nat → ClassId) (h0  sz : Nat) : Met l y_G_init w_G_init ({ frames := 1, cells := 10, slots := 10327, locals := 12 }) (va_Pc [.ref h0] (fun U => U.heap.size = sz ∧ va_P D zcl [(h0, .inr (2, [.int 0, .null, .null, .null, .null, .null, .null, .null, .null, .null, .null]))] U.heap ∧ va_K D zcl (zty cA) U ∧ va_D (fun _ => True) [(h0, .inr (2, [.int 0, .null, .null, .null, .null, .null, .null, .null, .null, .null, .null]))] ∧ zNw U)) (va_Qv (fun q : Nat → Nat => True) (fun q t => va_P D zcl (w_G_post cA h0  q) t.heap ∧ va_D (va_A [(h0, .inr (2, [.int 0, .null, .null, .null, .null, .null, .null, .null, .null, .null, .null]))] sz) (w_G_post cA h0  q)) (va_A [(h0, .inr (2, [.int 0, .null, .null, .null, .null, .null, .null, .null, .null, .null, .null]))] sz)) 10 10327 (va_A [(h0, .inr (2, [.int 0, .null, .null, .null, .null, .null, .null, .null, .null, .null, .null]))] sz) := by
  refine Met.ofW (cc := b_G_init) (maxL := 1) (ret := none) (by decide) rfl ?_
  intro p e s m args below meth c s₁ B hml hv
  obtain ⟨rfl, hsz, hP, hK, hD0, hNw⟩ := hv
  have hx := B.exec
  have hb := B.bytes
  have hr := B.returns
  have hts := atoms_spec (ws := w_G_init) B.pre
  have hown : s.vm.findClass n_G = some m.cls := findClass_of_methodNamed B.named
  have hlocks := B.notSynchronized
  have hin : meth.name = "<init>" := (name_of_methodNamed B.named B.method).1
  subst hsz
  have hD := hD0.self (sz := s.heap.size)
  generalize hAe : va_A [(h0, .inr (2, [.int 0, .null, .null, .null, .null, .null, .null, .null, .null, .null, .null]))] s.heap.size = A at hD ⊢
  have hA : ∀ q : Nat, s.heap.size ≤ q → A q := fun q h => by rw [← hAe]; exact Or.inr h
  have hS : va_S A s.heap s.heap [] := va_S.rf
  have hP : va_P D zcl [(h0, .inr (2, [.int 0, .null, .null, .null, .null, .null, .null, .null, .null, .null, .null]))] s.heap := hP
  have hl := lv_entry ([.ref h0]) (n := 1) (Nat.le_of_ble_eq_true rfl)
  rw [lg_entry_eq]
  generalize (lg_sl ([.ref h0]) ++ List.replicate (1 - (lg_sl ([.ref h0])).length) Slot.unset).toArray = ls at hl ⊢
  have hl : lv_has ls 1 [(0, .ref h0)] := hl
  refine lv_aload_n hx hb d_G_init_0 rfl (lv_at hl 0 rfl) ?_
  refine W.objInit hx hb hown (hts (.methodLink n_G 3 objectInit) (List.mem_cons_of_mem _ (wImem 89 (by decide +kernel) rfl))) (hts (.instanceMethod objectInit) (List.mem_cons_of_mem _ (wImem 21 (by decide +kernel) rfl))) (hts (.code objectInit ⟨#[0xb1]⟩ 1 none) (List.mem_cons_of_mem _ (wImem 22 (by decide +kernel) rfl))) rfl (by rw [hml]; exact hl.1) rfl d_G_init_1 (Nat.le_of_ble_eq_true rfl) (Nat.le_of_ble_eq_true rfl) ?_
  refine W.eq (g2 := F0 m 4 ls []) rfl ?_
  refine lv_aload_n hx hb d_G_init_4 rfl (lv_at hl 0 rfl) ?_
  refine lv_sipush (v := Int32.ofInt 4096) hx hb d_G_init_5 rfl ?_
  refine zn_int hx hb (hts (.arrayClass .int) (List.mem_cons_of_mem _ (wImem 67 (by decide +kernel) rfl))) hK hP hD hS hA 4096 (by decide) (by decide) (by decide) (by decide) (by decide) d_G_init_8 (fun q8 H hP hD hS => ?_)
  have hP : va_P D zcl [(h0, .inr (2, [.int 0, .null, .null, .null, .null, .null, .null, .null, .null, .null, .null])), (q8, .inl (cA 0, 4096, .inl (fun _ => 0)))] H := hP
  have hD : va_D A [(h0, .inr (2, [.int 0, .null, .null, .null, .null, .null, .null, .null, .null, .null, .null])), (q8, .inl (cA 0, 4096, .inl (fun _ => 0)))] := hD
  refine va_putF (D := D) (ci := 2) (v := .ref q8) (ty := .array .int) (C := n_G) (T := T_G) (N := 11) hx hb hts (fun w h => List.mem_cons_of_mem _ (uI_G w h)) t_G t_G_ok nm_G hown hK hP hD hS 0 rfl rfl 1 (by decide) (hts (.fieldLink n_G 9 n_G "numberOfCode" "[I") (List.mem_cons_of_mem _ (wImem 93 (by decide +kernel) rfl))) (fun _ h9 => h9) rfl hin rfl (by decide +kernel) rfl rfl (Nat.le_of_ble_eq_true rfl) d_G_init_10 (fun H locs hP hD hS => ?_)
  have hP : va_P D zcl [(h0, .inr (2, [.int 0, .ref q8, .null, .null, .null, .null, .null, .null, .null, .null, .null])), (q8, .inl (cA 0, 4096, .inl (fun _ => 0)))] H := hP
  have hD : va_D A [(h0, .inr (2, [.int 0, .ref q8, .null, .null, .null, .null, .null, .null, .null, .null, .null])), (q8, .inl (cA 0, 4096, .inl (fun _ => 0)))] := hD
  refine lv_aload_n hx hb d_G_init_13 rfl (lv_at hl 0 rfl) ?_
  refine lv_sipush (v := Int32.ofInt 201) hx hb d_G_init_14 rfl ?_
  refine zn_int hx hb (hts (.arrayClass .int) (List.mem_cons_of_mem _ (wImem 67 (by decide +kernel) rfl))) hK hP hD hS hA 201 (by decide) (by decide) (by decide) (by decide) (by decide) d_G_init_17 (fun q17 H hP hD hS => ?_)
  have hP : va_P D zcl [(h0, .inr (2, [.int 0, .ref q8, .null, .null, .null, .null, .null, .null, .null, .null, .null])), (q8, .inl (cA 0, 4096, .inl (fun _ => 0))), (q17, .inl (cA 0, 201, .inl (fun _ => 0)))] H := hP
  have hD : va_D A [(h0, .inr (2, [.int 0, .ref q8, .null, .null, .null, .null, .null, .null, .null, .null, .null])), (q8, .inl (cA 0, 4096, .inl (fun _ => 0))), (q17, .inl (cA 0, 201, .inl (fun _ => 0)))] := hD
  refine va_putF (D := D) (ci := 2) (v := .ref q17) (ty := .array .int) (C := n_G) (T := T_G) (N := 11) hx hb hts (fun w h => List.mem_cons_of_mem _ (uI_G w h)) t_G t_G_ok nm_G hown hK hP hD hS 0 rfl rfl 2 (by decide) (hts (.fieldLink n_G 15 n_G "code" "[I") (List.mem_cons_of_mem _ (wImem 94 (by decide +kernel) rfl))) (fun _ h9 => h9) rfl hin rfl (by decide +kernel) rfl rfl (Nat.le_of_ble_eq_true rfl) d_G_init_19 (fun H locs hP hD hS => ?_)
  have hP : va_P D zcl [(h0, .inr (2, [.int 0, .ref q8, .ref q17, .null, .null, .null, .null, .null, .null, .null, .null])), (q8, .inl (cA 0, 4096, .inl (fun _ => 0))), (q17, .inl (cA 0, 201, .inl (fun _ => 0)))] H := hP
  have hD : va_D A [(h0, .inr (2, [.int 0, .ref q8, .ref q17, .null, .null, .null, .null, .null, .null, .null, .null])), (q8, .inl (cA 0, 4096, .inl (fun _ => 0))), (q17, .inl (cA 0, 201, .inl (fun _ => 0)))] := hD
  refine lv_aload_n hx hb d_G_init_22 rfl (lv_at hl 0 rfl) ?_
  refine lv_sipush (v := Int32.ofInt 201) hx hb d_G_init_23 rfl ?_
  refine zn_bool hx hb (hts (.arrayClass .boolean) (List.mem_cons_of_mem _ (wImem 133 (by decide +kernel) rfl))) hK hP hD hS hA 201 (by decide) (by decide) (by decide) (by decide) (by decide) d_G_init_26 (fun q26 H hP hD hS => ?_)
  have hP : va_P D zcl [(h0, .inr (2, [.int 0, .ref q8, .ref q17, .null, .null, .null, .null, .null, .null, .null, .null])), (q8, .inl (cA 0, 4096, .inl (fun _ => 0))), (q17, .inl (cA 0, 201, .inl (fun _ => 0))), (q26, .inl (cA 1, 201, .inl (fun _ => 0)))] H := hP
  have hD : va_D A [(h0, .inr (2, [.int 0, .ref q8, .ref q17, .null, .null, .null, .null, .null, .null, .null, .null])), (q8, .inl (cA 0, 4096, .inl (fun _ => 0))), (q17, .inl (cA 0, 201, .inl (fun _ => 0))), (q26, .inl (cA 1, 201, .inl (fun _ => 0)))] := hD
  refine va_putF (D := D) (ci := 2) (v := .ref q26) (ty := .array .boolean) (C := n_G) (T := T_G) (N := 11) hx hb hts (fun w h => List.mem_cons_of_mem _ (uI_G w h)) t_G t_G_ok nm_G hown hK hP hD hS 0 rfl rfl 3 (by decide) (hts (.fieldLink n_G 18 n_G "marked" "[Z") (List.mem_cons_of_mem _ (wImem 96 (by decide +kernel) rfl))) (fun _ h9 => h9) rfl hin rfl (by decide +kernel) rfl rfl (Nat.le_of_ble_eq_true rfl) d_G_init_28 (fun H locs hP hD hS => ?_)
  have hP : va_P D zcl [(h0, .inr (2, [.int 0, .ref q8, .ref q17, .ref q26, .null, .null, .null, .null, .null, .null, .null])), (q8, .inl (cA 0, 4096, .inl (fun _ => 0))), (q17, .inl (cA 0, 201, .inl (fun _ => 0))), (q26, .inl (cA 1, 201, .inl (fun _ => 0)))] H := hP
  have hD : va_D A [(h0, .inr (2, [.int 0, .ref q8, .ref q17, .ref q26, .null, .null, .null, .null, .null, .null, .null])), (q8, .inl (cA 0, 4096, .inl (fun _ => 0))), (q17, .inl (cA 0, 201, .inl (fun _ => 0))), (q26, .inl (cA 1, 201, .inl (fun _ => 0)))] := hD
  refine lv_aload_n hx hb d_G_init_31 rfl (lv_at hl 0 rfl) ?_
  refine lv_sipush (v := Int32.ofInt 201) hx hb d_G_init_32 rfl ?_
  refine zn_bool hx hb (hts (.arrayClass .boolean) (List.mem_cons_of_mem _ (wImem 133 (by decide +kernel) rfl))) hK hP hD hS hA 201 (by decide) (by decide) (by decide) (by decide) (by decide) d_G_init_35 (fun q35 H hP hD hS => ?_)
  have hP : va_P D zcl [(h0, .inr (2, [.int 0, .ref q8, .ref q17, .ref q26, .null, .null, .null, .null, .null, .null, .null])), (q8, .inl (cA 0, 4096, .inl (fun _ => 0))), (q17, .inl (cA 0, 201, .inl (fun _ => 0))), (q26, .inl (cA 1, 201, .inl (fun _ => 0))), (q35, .inl (cA 1, 201, .inl (fun _ => 0)))] H := hP
  have hD : va_D A [(h0, .inr (2, [.int 0, .ref q8, .ref q17, .ref q26, .null, .null, .null, .null, .null, .null, .null])), (q8, .inl (cA 0, 4096, .inl (fun _ => 0))), (q17, .inl (cA 0, 201, .inl (fun _ => 0))), (q26, .inl (cA 1, 201, .inl (fun _ => 0))), (q35, .inl (cA 1, 201, .inl (fun _ => 0)))] := hD
  refine va_putF (D := D) (ci := 2) (v := .ref q35) (ty := .array .boolean) (C := n_G) (T := T_G) (N := 11) hx hb hts (fun w h => List.mem_cons_of_mem _ (uI_G w h)) t_G t_G_ok nm_G hown hK hP hD hS 0 rfl rfl 4 (by decide) (hts (.fieldLink n_G 22 n_G "kept" "[Z") (List.mem_cons_of_mem _ (wImem 99 (by decide +kernel) rfl))) (fun _ h9 => h9) rfl hin rfl (by decide +kernel) rfl rfl (Nat.le_of_ble_eq_true rfl) d_G_init_37 (fun H locs hP hD hS => ?_)
  have hP : va_P D zcl [(h0, .inr (2, [.int 0, .ref q8, .ref q17, .ref q26, .ref q35, .null, .null, .null, .null, .null, .null])), (q8, .inl (cA 0, 4096, .inl (fun _ => 0))), (q17, .inl (cA 0, 201, .inl (fun _ => 0))), (q26, .inl (cA 1, 201, .inl (fun _ => 0))), (q35, .inl (cA 1, 201, .inl (fun _ => 0)))] H := hP
  have hD : va_D A [(h0, .inr (2, [.int 0, .ref q8, .ref q17, .ref q26, .ref q35, .null, .null, .null, .null, .null, .null])), (q8, .inl (cA 0, 4096, .inl (fun _ => 0))), (q17, .inl (cA 0, 201, .inl (fun _ => 0))), (q26, .inl (cA 1, 201, .inl (fun _ => 0))), (q35, .inl (cA 1, 201, .inl (fun _ => 0)))] := hD
  refine lv_aload_n hx hb d_G_init_40 rfl (lv_at hl 0 rfl) ?_
  refine lv_sipush (v := Int32.ofInt 201) hx hb d_G_init_41 rfl ?_
  refine zn_int hx hb (hts (.arrayClass .int) (List.mem_cons_of_mem _ (wImem 67 (by decide +kernel) rfl))) hK hP hD hS hA 201 (by decide) (by decide) (by decide) (by decide) (by decide) d_G_init_44 (fun q44 H hP hD hS => ?_)
  have hP : va_P D zcl [(h0, .inr (2, [.int 0, .ref q8, .ref q17, .ref q26, .ref q35, .null, .null, .null, .null, .null, .null])), (q8, .inl (cA 0, 4096, .inl (fun _ => 0))), (q17, .inl (cA 0, 201, .inl (fun _ => 0))), (q26, .inl (cA 1, 201, .inl (fun _ => 0))), (q35, .inl (cA 1, 201, .inl (fun _ => 0))), (q44, .inl (cA 0, 201, .inl (fun _ => 0)))] H := hP
  have hD : va_D A [(h0, .inr (2, [.int 0, .ref q8, .ref q17, .ref q26, .ref q35, .null, .null, .null, .null, .null, .null])), (q8, .inl (cA 0, 4096, .inl (fun _ => 0))), (q17, .inl (cA 0, 201, .inl (fun _ => 0))), (q26, .inl (cA 1, 201, .inl (fun _ => 0))), (q35, .inl (cA 1, 201, .inl (fun _ => 0))), (q44, .inl (cA 0, 201, .inl (fun _ => 0)))] := hD
  refine va_putF (D := D) (ci := 2) (v := .ref q44) (ty := .array .int) (C := n_G) (T := T_G) (N := 11) hx hb hts (fun w h => List.mem_cons_of_mem _ (uI_G w h)) t_G t_G_ok nm_G hown hK hP hD hS 0 rfl rfl 5 (by decide) (hts (.fieldLink n_G 25 n_G "toMarked" "[I") (List.mem_cons_of_mem _ (wImem 102 (by decide +kernel) rfl))) (fun _ h9 => h9) rfl hin rfl (by decide +kernel) rfl rfl (Nat.le_of_ble_eq_true rfl) d_G_init_46 (fun H locs hP hD hS => ?_)
  have hP : va_P D zcl [(h0, .inr (2, [.int 0, .ref q8, .ref q17, .ref q26, .ref q35, .ref q44, .null, .null, .null, .null, .null])), (q8, .inl (cA 0, 4096, .inl (fun _ => 0))), (q17, .inl (cA 0, 201, .inl (fun _ => 0))), (q26, .inl (cA 1, 201, .inl (fun _ => 0))), (q35, .inl (cA 1, 201, .inl (fun _ => 0))), (q44, .inl (cA 0, 201, .inl (fun _ => 0)))] H := hP
  have hD : va_D A [(h0, .inr (2, [.int 0, .ref q8, .ref q17, .ref q26, .ref q35, .ref q44, .null, .null, .null, .null, .null])), (q8, .inl (cA 0, 4096, .inl (fun _ => 0))), (q17, .inl (cA 0, 201, .inl (fun _ => 0))), (q26, .inl (cA 1, 201, .inl (fun _ => 0))), (q35, .inl (cA 1, 201, .inl (fun _ => 0))), (q44, .inl (cA 0, 201, .inl (fun _ => 0)))] := hD
  refine lv_aload_n hx hb d_G_init_49 rfl (lv_at hl 0 rfl) ?_
  refine lv_sipush (v := Int32.ofInt 201) hx hb d_G_init_50 rfl ?_
  refine zn_int hx hb (hts (.arrayClass .int) (List.mem_cons_of_mem _ (wImem 67 (by decide +kernel) rfl))) hK hP hD hS hA 201 (by decide) (by decide) (by decide) (by decide) (by decide) d_G_init_53 (fun q53 H hP hD hS => ?_)
  have hP : va_P D zcl [(h0, .inr (2, [.int 0, .ref q8, .ref q17, .ref q26, .ref q35, .ref q44, .null, .null, .null, .null, .null])), (q8, .inl (cA 0, 4096, .inl (fun _ => 0))), (q17, .inl (cA 0, 201, .inl (fun _ => 0))), (q26, .inl (cA 1, 201, .inl (fun _ => 0))), (q35, .inl (cA 1, 201, .inl (fun _ => 0))), (q44, .inl (cA 0, 201, .inl (fun _ => 0))), (q53, .inl (cA 0, 201, .inl (fun _ => 0)))] H := hP
  have hD : va_D A [(h0, .inr (2, [.int 0, .ref q8, .ref q17, .ref q26, .ref q35, .ref q44, .null, .null, .null, .null, .null])), (q8, .inl (cA 0, 4096, .inl (fun _ => 0))), (q17, .inl (cA 0, 201, .inl (fun _ => 0))), (q26, .inl (cA 1, 201, .inl (fun _ => 0))), (q35, .inl (cA 1, 201, .inl (fun _ => 0))), (q44, .inl (cA 0, 201, .inl (fun _ => 0))), (q53, .inl (cA 0, 201, .inl (fun _ => 0)))] := hD
  refine va_putF (D := D) (ci := 2) (v := .ref q53) (ty := .array .int) (C := n_G) (T := T_G) (N := 11) hx hb hts (fun w h => List.mem_cons_of_mem _ (uI_G w h)) t_G t_G_ok nm_G hown hK hP hD hS 0 rfl rfl 6 (by decide) (hts (.fieldLink n_G 28 n_G "foundBy" "[I") (List.mem_cons_of_mem _ (wImem 104 (by decide +kernel) rfl))) (fun _ h9 => h9) rfl hin rfl (by decide +kernel) rfl rfl (Nat.le_of_ble_eq_true rfl) d_G_init_55 (fun H locs hP hD hS => ?_)
  have hP : va_P D zcl [(h0, .inr (2, [.int 0, .ref q8, .ref q17, .ref q26, .ref q35, .ref q44, .ref q53, .null, .null, .null, .null])), (q8, .inl (cA 0, 4096, .inl (fun _ => 0))), (q17, .inl (cA 0, 201, .inl (fun _ => 0))), (q26, .inl (cA 1, 201, .inl (fun _ => 0))), (q35, .inl (cA 1, 201, .inl (fun _ => 0))), (q44, .inl (cA 0, 201, .inl (fun _ => 0))), (q53, .inl (cA 0, 201, .inl (fun _ => 0)))] H := hP
  have hD : va_D A [(h0, .inr (2, [.int 0, .ref q8, .ref q17, .ref q26, .ref q35, .ref q44, .ref q53, .null, .null, .null, .null])), (q8, .inl (cA 0, 4096, .inl (fun _ => 0))), (q17, .inl (cA 0, 201, .inl (fun _ => 0))), (q26, .inl (cA 1, 201, .inl (fun _ => 0))), (q35, .inl (cA 1, 201, .inl (fun _ => 0))), (q44, .inl (cA 0, 201, .inl (fun _ => 0))), (q53, .inl (cA 0, 201, .inl (fun _ => 0)))] := hD
  refine lv_aload_n hx hb d_G_init_58 rfl (lv_at hl 0 rfl) ?_
  refine lv_sipush (v := Int32.ofInt 2412) hx hb d_G_init_59 rfl ?_
  refine zn_int hx hb (hts (.arrayClass .int) (List.mem_cons_of_mem _ (wImem 67 (by decide +kernel) rfl))) hK hP hD hS hA 2412 (by decide) (by decide) (by decide) (by decide) (by decide) d_G_init_62 (fun q62 H hP hD hS => ?_)
  have hP : va_P D zcl [(h0, .inr (2, [.int 0, .ref q8, .ref q17, .ref q26, .ref q35, .ref q44, .ref q53, .null, .null, .null, .null])), (q8, .inl (cA 0, 4096, .inl (fun _ => 0))), (q17, .inl (cA 0, 201, .inl (fun _ => 0))), (q26, .inl (cA 1, 201, .inl (fun _ => 0))), (q35, .inl (cA 1, 201, .inl (fun _ => 0))), (q44, .inl (cA 0, 201, .inl (fun _ => 0))), (q53, .inl (cA 0, 201, .inl (fun _ => 0))), (q62, .inl (cA 0, 2412, .inl (fun _ => 0)))] H := hP
  have hD : va_D A [(h0, .inr (2, [.int 0, .ref q8, .ref q17, .ref q26, .ref q35, .ref q44, .ref q53, .null, .null, .null, .null])), (q8, .inl (cA 0, 4096, .inl (fun _ => 0))), (q17, .inl (cA 0, 201, .inl (fun _ => 0))), (q26, .inl (cA 1, 201, .inl (fun _ => 0))), (q35, .inl (cA 1, 201, .inl (fun _ => 0))), (q44, .inl (cA 0, 201, .inl (fun _ => 0))), (q53, .inl (cA 0, 201, .inl (fun _ => 0))), (q62, .inl (cA 0, 2412, .inl (fun _ => 0)))] := hD
  refine va_putF (D := D) (ci := 2) (v := .ref q62) (ty := .array .int) (C := n_G) (T := T_G) (N := 11) hx hb hts (fun w h => List.mem_cons_of_mem _ (uI_G w h)) t_G t_G_ok nm_G hown hK hP hD hS 0 rfl rfl 7 (by decide) (hts (.fieldLink n_G 31 n_G "target" "[I") (List.mem_cons_of_mem _ (wImem 106 (by decide +kernel) rfl))) (fun _ h9 => h9) rfl hin rfl (by decide +kernel) rfl rfl (Nat.le_of_ble_eq_true rfl) d_G_init_64 (fun H locs hP hD hS => ?_)
  have hP : va_P D zcl [(h0, .inr (2, [.int 0, .ref q8, .ref q17, .ref q26, .ref q35, .ref q44, .ref q53, .ref q62, .null, .null, .null])), (q8, .inl (cA 0, 4096, .inl (fun _ => 0))), (q17, .inl (cA 0, 201, .inl (fun _ => 0))), (q26, .inl (cA 1, 201, .inl (fun _ => 0))), (q35, .inl (cA 1, 201, .inl (fun _ => 0))), (q44, .inl (cA 0, 201, .inl (fun _ => 0))), (q53, .inl (cA 0, 201, .inl (fun _ => 0))), (q62, .inl (cA 0, 2412, .inl (fun _ => 0)))] H := hP
  have hD : va_D A [(h0, .inr (2, [.int 0, .ref q8, .ref q17, .ref q26, .ref q35, .ref q44, .ref q53, .ref q62, .null, .null, .null])), (q8, .inl (cA 0, 4096, .inl (fun _ => 0))), (q17, .inl (cA 0, 201, .inl (fun _ => 0))), (q26, .inl (cA 1, 201, .inl (fun _ => 0))), (q35, .inl (cA 1, 201, .inl (fun _ => 0))), (q44, .inl (cA 0, 201, .inl (fun _ => 0))), (q53, .inl (cA 0, 201, .inl (fun _ => 0))), (q62, .inl (cA 0, 2412, .inl (fun _ => 0)))] := hD
  refine lv_aload_n hx hb d_G_init_67 rfl (lv_at hl 0 rfl) ?_
  refine lv_sipush (v := Int32.ofInt 201) hx hb d_G_init_68 rfl ?_
  refine zn_int hx hb (hts (.arrayClass .int) (List.mem_cons_of_mem _ (wImem 67 (by decide +kernel) rfl))) hK hP hD hS hA 201 (by decide) (by decide) (by decide) (by decide) (by decide) d_G_init_71 (fun q71 H hP hD hS => ?_)
  have hP : va_P D zcl [(h0, .inr (2, [.int 0, .ref q8, .ref q17, .ref q26, .ref q35, .ref q44, .ref q53, .ref q62, .null, .null, .null])), (q8, .inl (cA 0, 4096, .inl (fun _ => 0))), (q17, .inl (cA 0, 201, .inl (fun _ => 0))), (q26, .inl (cA 1, 201, .inl (fun _ => 0))), (q35, .inl (cA 1, 201, .inl (fun _ => 0))), (q44, .inl (cA 0, 201, .inl (fun _ => 0))), (q53, .inl (cA 0, 201, .inl (fun _ => 0))), (q62, .inl (cA 0, 2412, .inl (fun _ => 0))), (q71, .inl (cA 0, 201, .inl (fun _ => 0)))] H := hP
  have hD : va_D A [(h0, .inr (2, [.int 0, .ref q8, .ref q17, .ref q26, .ref q35, .ref q44, .ref q53, .ref q62, .null, .null, .null])), (q8, .inl (cA 0, 4096, .inl (fun _ => 0))), (q17, .inl (cA 0, 201, .inl (fun _ => 0))), (q26, .inl (cA 1, 201, .inl (fun _ => 0))), (q35, .inl (cA 1, 201, .inl (fun _ => 0))), (q44, .inl (cA 0, 201, .inl (fun _ => 0))), (q53, .inl (cA 0, 201, .inl (fun _ => 0))), (q62, .inl (cA 0, 2412, .inl (fun _ => 0))), (q71, .inl (cA 0, 201, .inl (fun _ => 0)))] := hD
  refine va_putF (D := D) (ci := 2) (v := .ref q71) (ty := .array .int) (C := n_G) (T := T_G) (N := 11) hx hb hts (fun w h => List.mem_cons_of_mem _ (uI_G w h)) t_G t_G_ok nm_G hown hK hP hD hS 0 rfl rfl 8 (by decide) (hts (.fieldLink n_G 34 n_G "lastInto" "[I") (List.mem_cons_of_mem _ (wImem 107 (by decide +kernel) rfl))) (fun _ h9 => h9) rfl hin rfl (by decide +kernel) rfl rfl (Nat.le_of_ble_eq_true rfl) d_G_init_73 (fun H locs hP hD hS => ?_)
  have hP : va_P D zcl [(h0, .inr (2, [.int 0, .ref q8, .ref q17, .ref q26, .ref q35, .ref q44, .ref q53, .ref q62, .ref q71, .null, .null])), (q8, .inl (cA 0, 4096, .inl (fun _ => 0))), (q17, .inl (cA 0, 201, .inl (fun _ => 0))), (q26, .inl (cA 1, 201, .inl (fun _ => 0))), (q35, .inl (cA 1, 201, .inl (fun _ => 0))), (q44, .inl (cA 0, 201, .inl (fun _ => 0))), (q53, .inl (cA 0, 201, .inl (fun _ => 0))), (q62, .inl (cA 0, 2412, .inl (fun _ => 0))), (q71, .inl (cA 0, 201, .inl (fun _ => 0)))] H := hP
  have hD : va_D A [(h0, .inr (2, [.int 0, .ref q8, .ref q17, .ref q26, .ref q35, .ref q44, .ref q53, .ref q62, .ref q71, .null, .null])), (q8, .inl (cA 0, 4096, .inl (fun _ => 0))), (q17, .inl (cA 0, 201, .inl (fun _ => 0))), (q26, .inl (cA 1, 201, .inl (fun _ => 0))), (q35, .inl (cA 1, 201, .inl (fun _ => 0))), (q44, .inl (cA 0, 201, .inl (fun _ => 0))), (q53, .inl (cA 0, 201, .inl (fun _ => 0))), (q62, .inl (cA 0, 2412, .inl (fun _ => 0))), (q71, .inl (cA 0, 201, .inl (fun _ => 0)))] := hD
  refine lv_aload_n hx hb d_G_init_76 rfl (lv_at hl 0 rfl) ?_
  refine lv_sipush (v := Int32.ofInt 2412) hx hb d_G_init_77 rfl ?_
  refine zn_int hx hb (hts (.arrayClass .int) (List.mem_cons_of_mem _ (wImem 67 (by decide +kernel) rfl))) hK hP hD hS hA 2412 (by decide) (by decide) (by decide) (by decide) (by decide) d_G_init_80 (fun q80 H hP hD hS => ?_)
  have hP : va_P D zcl [(h0, .inr (2, [.int 0, .ref q8, .ref q17, .ref q26, .ref q35, .ref q44, .ref q53, .ref q62, .ref q71, .null, .null])), (q8, .inl (cA 0, 4096, .inl (fun _ => 0))), (q17, .inl (cA 0, 201, .inl (fun _ => 0))), (q26, .inl (cA 1, 201, .inl (fun _ => 0))), (q35, .inl (cA 1, 201, .inl (fun _ => 0))), (q44, .inl (cA 0, 201, .inl (fun _ => 0))), (q53, .inl (cA 0, 201, .inl (fun _ => 0))), (q62, .inl (cA 0, 2412, .inl (fun _ => 0))), (q71, .inl (cA 0, 201, .inl (fun _ => 0))), (q80, .inl (cA 0, 2412, .inl (fun _ => 0)))] H := hP
  have hD : va_D A [(h0, .inr (2, [.int 0, .ref q8, .ref q17, .ref q26, .ref q35, .ref q44, .ref q53, .ref q62, .ref q71, .null, .null])), (q8, .inl (cA 0, 4096, .inl (fun _ => 0))), (q17, .inl (cA 0, 201, .inl (fun _ => 0))), (q26, .inl (cA 1, 201, .inl (fun _ => 0))), (q35, .inl (cA 1, 201, .inl (fun _ => 0))), (q44, .inl (cA 0, 201, .inl (fun _ => 0))), (q53, .inl (cA 0, 201, .inl (fun _ => 0))), (q62, .inl (cA 0, 2412, .inl (fun _ => 0))), (q71, .inl (cA 0, 201, .inl (fun _ => 0))), (q80, .inl (cA 0, 2412, .inl (fun _ => 0)))] := hD
  refine va_putF (D := D) (ci := 2) (v := .ref q80) (ty := .array .int) (C := n_G) (T := T_G) (N := 11) hx hb hts (fun w h => List.mem_cons_of_mem _ (uI_G w h)) t_G t_G_ok nm_G hown hK hP hD hS 0 rfl rfl 9 (by decide) (hts (.fieldLink n_G 37 n_G "beforeInto" "[I") (List.mem_cons_of_mem _ (wImem 108 (by decide +kernel) rfl))) (fun _ h9 => h9) rfl hin rfl (by decide +kernel) rfl rfl (Nat.le_of_ble_eq_true rfl) d_G_init_82 (fun H locs hP hD hS => ?_)
  have hP : va_P D zcl [(h0, .inr (2, [.int 0, .ref q8, .ref q17, .ref q26, .ref q35, .ref q44, .ref q53, .ref q62, .ref q71, .ref q80, .null])), (q8, .inl (cA 0, 4096, .inl (fun _ => 0))), (q17, .inl (cA 0, 201, .inl (fun _ => 0))), (q26, .inl (cA 1, 201, .inl (fun _ => 0))), (q35, .inl (cA 1, 201, .inl (fun _ => 0))), (q44, .inl (cA 0, 201, .inl (fun _ => 0))), (q53, .inl (cA 0, 201, .inl (fun _ => 0))), (q62, .inl (cA 0, 2412, .inl (fun _ => 0))), (q71, .inl (cA 0, 201, .inl (fun _ => 0))), (q80, .inl (cA 0, 2412, .inl (fun _ => 0)))] H := hP
  have hD : va_D A [(h0, .inr (2, [.int 0, .ref q8, .ref q17, .ref q26, .ref q35, .ref q44, .ref q53, .ref q62, .ref q71, .ref q80, .null])), (q8, .inl (cA 0, 4096, .inl (fun _ => 0))), (q17, .inl (cA 0, 201, .inl (fun _ => 0))), (q26, .inl (cA 1, 201, .inl (fun _ => 0))), (q35, .inl (cA 1, 201, .inl (fun _ => 0))), (q44, .inl (cA 0, 201, .inl (fun _ => 0))), (q53, .inl (cA 0, 201, .inl (fun _ => 0))), (q62, .inl (cA 0, 2412, .inl (fun _ => 0))), (q71, .inl (cA 0, 201, .inl (fun _ => 0))), (q80, .inl (cA 0, 2412, .inl (fun _ => 0)))] := hD
  refine lv_aload_n hx hb d_G_init_85 rfl (lv_at hl 0 rfl) ?_
  refine lv_sipush (v := Int32.ofInt 201) hx hb d_G_init_86 rfl ?_
  refine zn_int hx hb (hts (.arrayClass .int) (List.mem_cons_of_mem _ (wImem 67 (by decide +kernel) rfl))) hK hP hD hS hA 201 (by decide) (by decide) (by decide) (by decide) (by decide) d_G_init_89 (fun q89 H hP hD hS => ?_)
  have hP : va_P D zcl [(h0, .inr (2, [.int 0, .ref q8, .ref q17, .ref q26, .ref q35, .ref q44, .ref q53, .ref q62, .ref q71, .ref q80, .null])), (q8, .inl (cA 0, 4096, .inl (fun _ => 0))), (q17, .inl (cA 0, 201, .inl (fun _ => 0))), (q26, .inl (cA 1, 201, .inl (fun _ => 0))), (q35, .inl (cA 1, 201, .inl (fun _ => 0))), (q44, .inl (cA 0, 201, .inl (fun _ => 0))), (q53, .inl (cA 0, 201, .inl (fun _ => 0))), (q62, .inl (cA 0, 2412, .inl (fun _ => 0))), (q71, .inl (cA 0, 201, .inl (fun _ => 0))), (q80, .inl (cA 0, 2412, .inl (fun _ => 0))), (q89, .inl (cA 0, 201, .inl (fun _ => 0)))] H := hP
  have hD : va_D A [(h0, .inr (2, [.int 0, .ref q8, .ref q17, .ref q26, .ref q35, .ref q44, .ref q53, .ref q62, .ref q71, .ref q80, .null])), (q8, .inl (cA 0, 4096, .inl (fun _ => 0))), (q17, .inl (cA 0, 201, .inl (fun _ => 0))), (q26, .inl (cA 1, 201, .inl (fun _ => 0))), (q35, .inl (cA 1, 201, .inl (fun _ => 0))), (q44, .inl (cA 0, 201, .inl (fun _ => 0))), (q53, .inl (cA 0, 201, .inl (fun _ => 0))), (q62, .inl (cA 0, 2412, .inl (fun _ => 0))), (q71, .inl (cA 0, 201, .inl (fun _ => 0))), (q80, .inl (cA 0, 2412, .inl (fun _ => 0))), (q89, .inl (cA 0, 201, .inl (fun _ => 0)))] := hD
  refine va_putF (D := D) (ci := 2) (v := .ref q89) (ty := .array .int) (C := n_G) (T := T_G) (N := 11) hx hb hts (fun w h => List.mem_cons_of_mem _ (uI_G w h)) t_G t_G_ok nm_G hown hK hP hD hS 0 rfl rfl 10 (by decide) (hts (.fieldLink n_G 40 n_G "queue" "[I") (List.mem_cons_of_mem _ (wImem 109 (by decide +kernel) rfl))) (fun _ h9 => h9) rfl hin rfl (by decide +kernel) rfl rfl (Nat.le_of_ble_eq_true rfl) d_G_init_91 (fun H locs hP hD hS => ?_)
  have hP : va_P D zcl [(h0, .inr (2, [.int 0, .ref q8, .ref q17, .ref q26, .ref q35, .ref q44, .ref q53, .ref q62, .ref q71, .ref q80, .ref q89])), (q8, .inl (cA 0, 4096, .inl (fun _ => 0))), (q17, .inl (cA 0, 201, .inl (fun _ => 0))), (q26, .inl (cA 1, 201, .inl (fun _ => 0))), (q35, .inl (cA 1, 201, .inl (fun _ => 0))), (q44, .inl (cA 0, 201, .inl (fun _ => 0))), (q53, .inl (cA 0, 201, .inl (fun _ => 0))), (q62, .inl (cA 0, 2412, .inl (fun _ => 0))), (q71, .inl (cA 0, 201, .inl (fun _ => 0))), (q80, .inl (cA 0, 2412, .inl (fun _ => 0))), (q89, .inl (cA 0, 201, .inl (fun _ => 0)))] H := hP
  have hD : va_D A [(h0, .inr (2, [.int 0, .ref q8, .ref q17, .ref q26, .ref q35, .ref q44, .ref q53, .ref q62, .ref q71, .ref q80, .ref q89])), (q8, .inl (cA 0, 4096, .inl (fun _ => 0))), (q17, .inl (cA 0, 201, .inl (fun _ => 0))), (q26, .inl (cA 1, 201, .inl (fun _ => 0))), (q35, .inl (cA 1, 201, .inl (fun _ => 0))), (q44, .inl (cA 0, 201, .inl (fun _ => 0))), (q53, .inl (cA 0, 201, .inl (fun _ => 0))), (q62, .inl (cA 0, 2412, .inl (fun _ => 0))), (q71, .inl (cA 0, 201, .inl (fun _ => 0))), (q80, .inl (cA 0, 2412, .inl (fun _ => 0))), (q89, .inl (cA 0, 201, .inl (fun _ => 0)))] := hD
  refine W.widen (k := 10) (n := 10327) (by decide) (by decide) ?_
  exact W.vret hx hb hr (fun t ht hW => ⟨⟨fun k => [q8, q17, q26, q35, q44, q53, q62, q71, q80, q89].getD k 0, rfl, trivial, by rw [ht]; exact hP, hD⟩, hS.F ht⟩) hS.2.2 d_G_init_94
abbrev w_Y_post (cA : Nat → ClassId) (h0 x1 x2 : Nat) (q : Nat → Nat) : va_W := [(h0, .inr (5, [.ref x1, .ref x2, .ref (q 0), .ref (q 1), .ref (q 2)])), (q 0, .inl (cA 0, 201, .inl (fun _ => 0))), (q 1, .inl (cA 0, 201, .inl (fun _ => 0))), (q 2, .inl (cA 0, 201, .inl (fun _ => 0)))]
def w_Y_init : List Cond := Cond.code y_Y_init b_Y_init 3 none :: wI
set_option maxHeartbeats 4000000 in
set_option maxRecDepth 100000 in
theorem c_Y_init (l : Launch) (D : va_G) (cA : Nat → ClassId) (h0 x1 x2 sz : Nat) : Met l y_Y_init w_Y_init ({ frames := 1, cells := 3, slots := 603, locals := 12 }) (va_Pc [.ref h0, .ref x1, .ref x2] (fun U => U.heap.size = sz ∧ va_P D zcl [(h0, .inr (5, [.null, .null, .null, .null, .null]))] U.heap ∧ va_K D zcl (zty cA) U ∧ va_D (fun _ => True) [(h0, .inr (5, [.null, .null, .null, .null, .null]))] ∧ zNw U)) (va_Qv (fun q : Nat → Nat => True) (fun q t => va_P D zcl (w_Y_post cA h0 x1 x2 q) t.heap ∧ va_D (va_A [(h0, .inr (5, [.null, .null, .null, .null, .null]))] sz) (w_Y_post cA h0 x1 x2 q)) (va_A [(h0, .inr (5, [.null, .null, .null, .null, .null]))] sz)) 3 603 (va_A [(h0, .inr (5, [.null, .null, .null, .null, .null]))] sz) := by
  refine Met.ofW (cc := b_Y_init) (maxL := 3) (ret := none) (by decide) rfl ?_
  intro p e s m args below meth c s₁ B hml hv
  obtain ⟨rfl, hsz, hP, hK, hD0, hNw⟩ := hv
  have hx := B.exec
  have hb := B.bytes
  have hr := B.returns
  have hts := atoms_spec (ws := w_Y_init) B.pre
  have hown : s.vm.findClass n_Y = some m.cls := findClass_of_methodNamed B.named
  have hlocks := B.notSynchronized
  have hin : meth.name = "<init>" := (name_of_methodNamed B.named B.method).1
  subst hsz
  have hD := hD0.self (sz := s.heap.size)
  generalize hAe : va_A [(h0, .inr (5, [.null, .null, .null, .null, .null]))] s.heap.size = A at hD ⊢
  have hA : ∀ q : Nat, s.heap.size ≤ q → A q := fun q h => by rw [← hAe]; exact Or.inr h
  have hS : va_S A s.heap s.heap [] := va_S.rf
  have hP : va_P D zcl [(h0, .inr (5, [.null, .null, .null, .null, .null]))] s.heap := hP
  have hl := lv_entry ([.ref h0, .ref x1, .ref x2]) (n := 3) (Nat.le_of_ble_eq_true rfl)
  rw [lg_entry_eq]
  generalize (lg_sl ([.ref h0, .ref x1, .ref x2]) ++ List.replicate (3 - (lg_sl ([.ref h0, .ref x1, .ref x2])).length) Slot.unset).toArray = ls at hl ⊢
  have hl : lv_has ls 3 [(0, .ref h0), (1, .ref x1), (2, .ref x2)] := hl
  refine lv_aload_n hx hb d_Y_init_0 rfl (lv_at hl 0 rfl) ?_
  refine W.objInit hx hb hown (hts (.methodLink n_Y 3 objectInit) (List.mem_cons_of_mem _ (wImem 139 (by decide +kernel) rfl))) (hts (.instanceMethod objectInit) (List.mem_cons_of_mem _ (wImem 21 (by decide +kernel) rfl))) (hts (.code objectInit ⟨#[0xb1]⟩ 1 none) (List.mem_cons_of_mem _ (wImem 22 (by decide +kernel) rfl))) rfl (by rw [hml]; exact hl.1) rfl d_Y_init_1 (Nat.le_of_ble_eq_true rfl) (Nat.le_of_ble_eq_true rfl) ?_
  refine W.eq (g2 := F0 m 4 ls []) rfl ?_
  refine lv_aload_n hx hb d_Y_init_4 rfl (lv_at hl 0 rfl) ?_
  refine lv_sipush (v := Int32.ofInt 201) hx hb d_Y_init_5 rfl ?_
  refine zn_int hx hb (hts (.arrayClass .int) (List.mem_cons_of_mem _ (wImem 67 (by decide +kernel) rfl))) hK hP hD hS hA 201 (by decide) (by decide) (by decide) (by decide) (by decide) d_Y_init_8 (fun q8 H hP hD hS => ?_)
  have hP : va_P D zcl [(h0, .inr (5, [.null, .null, .null, .null, .null])), (q8, .inl (cA 0, 201, .inl (fun _ => 0)))] H := hP
  have hD : va_D A [(h0, .inr (5, [.null, .null, .null, .null, .null])), (q8, .inl (cA 0, 201, .inl (fun _ => 0)))] := hD
  refine va_putF (D := D) (ci := 5) (v := .ref q8) (ty := .array .int) (C := n_Y) (T := T_Y) (N := 5) hx hb hts (fun w h => List.mem_cons_of_mem _ (uI_Y w h)) t_Y t_Y_ok nm_Y hown hK hP hD hS 0 rfl rfl 2 (by decide) (hts (.fieldLink n_Y 9 n_Y "eventsOfPlants" "[I") (List.mem_cons_of_mem _ (wImem 142 (by decide +kernel) rfl))) (fun _ h9 => h9) rfl hin rfl (by decide +kernel) rfl rfl (Nat.le_of_ble_eq_true rfl) d_Y_init_10 (fun H locs hP hD hS => ?_)
  have hP : va_P D zcl [(h0, .inr (5, [.null, .null, .ref q8, .null, .null])), (q8, .inl (cA 0, 201, .inl (fun _ => 0)))] H := hP
  have hD : va_D A [(h0, .inr (5, [.null, .null, .ref q8, .null, .null])), (q8, .inl (cA 0, 201, .inl (fun _ => 0)))] := hD
  refine lv_aload_n hx hb d_Y_init_13 rfl (lv_at hl 0 rfl) ?_
  refine lv_sipush (v := Int32.ofInt 201) hx hb d_Y_init_14 rfl ?_
  refine zn_int hx hb (hts (.arrayClass .int) (List.mem_cons_of_mem _ (wImem 67 (by decide +kernel) rfl))) hK hP hD hS hA 201 (by decide) (by decide) (by decide) (by decide) (by decide) d_Y_init_17 (fun q17 H hP hD hS => ?_)
  have hP : va_P D zcl [(h0, .inr (5, [.null, .null, .ref q8, .null, .null])), (q8, .inl (cA 0, 201, .inl (fun _ => 0))), (q17, .inl (cA 0, 201, .inl (fun _ => 0)))] H := hP
  have hD : va_D A [(h0, .inr (5, [.null, .null, .ref q8, .null, .null])), (q8, .inl (cA 0, 201, .inl (fun _ => 0))), (q17, .inl (cA 0, 201, .inl (fun _ => 0)))] := hD
  refine va_putF (D := D) (ci := 5) (v := .ref q17) (ty := .array .int) (C := n_Y) (T := T_Y) (N := 5) hx hb hts (fun w h => List.mem_cons_of_mem _ (uI_Y w h)) t_Y t_Y_ok nm_Y hown hK hP hD hS 0 rfl rfl 3 (by decide) (hts (.fieldLink n_Y 15 n_Y "stateOfNode" "[I") (List.mem_cons_of_mem _ (wImem 143 (by decide +kernel) rfl))) (fun _ h9 => h9) rfl hin rfl (by decide +kernel) rfl rfl (Nat.le_of_ble_eq_true rfl) d_Y_init_19 (fun H locs hP hD hS => ?_)
  have hP : va_P D zcl [(h0, .inr (5, [.null, .null, .ref q8, .ref q17, .null])), (q8, .inl (cA 0, 201, .inl (fun _ => 0))), (q17, .inl (cA 0, 201, .inl (fun _ => 0)))] H := hP
  have hD : va_D A [(h0, .inr (5, [.null, .null, .ref q8, .ref q17, .null])), (q8, .inl (cA 0, 201, .inl (fun _ => 0))), (q17, .inl (cA 0, 201, .inl (fun _ => 0)))] := hD
  refine lv_aload_n hx hb d_Y_init_22 rfl (lv_at hl 0 rfl) ?_
  refine lv_sipush (v := Int32.ofInt 201) hx hb d_Y_init_23 rfl ?_
  refine zn_int hx hb (hts (.arrayClass .int) (List.mem_cons_of_mem _ (wImem 67 (by decide +kernel) rfl))) hK hP hD hS hA 201 (by decide) (by decide) (by decide) (by decide) (by decide) d_Y_init_26 (fun q26 H hP hD hS => ?_)
  have hP : va_P D zcl [(h0, .inr (5, [.null, .null, .ref q8, .ref q17, .null])), (q8, .inl (cA 0, 201, .inl (fun _ => 0))), (q17, .inl (cA 0, 201, .inl (fun _ => 0))), (q26, .inl (cA 0, 201, .inl (fun _ => 0)))] H := hP
  have hD : va_D A [(h0, .inr (5, [.null, .null, .ref q8, .ref q17, .null])), (q8, .inl (cA 0, 201, .inl (fun _ => 0))), (q17, .inl (cA 0, 201, .inl (fun _ => 0))), (q26, .inl (cA 0, 201, .inl (fun _ => 0)))] := hD
  refine va_putF (D := D) (ci := 5) (v := .ref q26) (ty := .array .int) (C := n_Y) (T := T_Y) (N := 5) hx hb hts (fun w h => List.mem_cons_of_mem _ (uI_Y w h)) t_Y t_Y_ok nm_Y hown hK hP hD hS 0 rfl rfl 4 (by decide) (hts (.fieldLink n_Y 18 n_Y "nodeOfState" "[I") (List.mem_cons_of_mem _ (wImem 144 (by decide +kernel) rfl))) (fun _ h9 => h9) rfl hin rfl (by decide +kernel) rfl rfl (Nat.le_of_ble_eq_true rfl) d_Y_init_28 (fun H locs hP hD hS => ?_)
  have hP : va_P D zcl [(h0, .inr (5, [.null, .null, .ref q8, .ref q17, .ref q26])), (q8, .inl (cA 0, 201, .inl (fun _ => 0))), (q17, .inl (cA 0, 201, .inl (fun _ => 0))), (q26, .inl (cA 0, 201, .inl (fun _ => 0)))] H := hP
  have hD : va_D A [(h0, .inr (5, [.null, .null, .ref q8, .ref q17, .ref q26])), (q8, .inl (cA 0, 201, .inl (fun _ => 0))), (q17, .inl (cA 0, 201, .inl (fun _ => 0))), (q26, .inl (cA 0, 201, .inl (fun _ => 0)))] := hD
  refine lv_aload_n hx hb d_Y_init_31 rfl (lv_at hl 0 rfl) ?_
  refine lv_aload_n hx hb d_Y_init_32 rfl (lv_at hl 1 rfl) ?_
  refine va_putF (D := D) (ci := 5) (v := .ref x1) (ty := .object "SafeControl$Automata") (C := n_Y) (T := T_Y) (N := 5) hx hb hts (fun w h => List.mem_cons_of_mem _ (uI_Y w h)) t_Y t_Y_ok nm_Y hown hK hP hD hS 0 rfl rfl 0 (by decide) (hts (.fieldLink n_Y 21 n_Y "automata" "LSafeControl$Automata;") (List.mem_cons_of_mem _ (wImem 140 (by decide +kernel) rfl))) (fun _ h9 => h9) rfl hin rfl (by decide +kernel) rfl rfl (Nat.le_of_ble_eq_true rfl) d_Y_init_33 (fun H locs hP hD hS => ?_)
  have hP : va_P D zcl [(h0, .inr (5, [.ref x1, .null, .ref q8, .ref q17, .ref q26])), (q8, .inl (cA 0, 201, .inl (fun _ => 0))), (q17, .inl (cA 0, 201, .inl (fun _ => 0))), (q26, .inl (cA 0, 201, .inl (fun _ => 0)))] H := hP
  have hD : va_D A [(h0, .inr (5, [.ref x1, .null, .ref q8, .ref q17, .ref q26])), (q8, .inl (cA 0, 201, .inl (fun _ => 0))), (q17, .inl (cA 0, 201, .inl (fun _ => 0))), (q26, .inl (cA 0, 201, .inl (fun _ => 0)))] := hD
  refine lv_aload_n hx hb d_Y_init_36 rfl (lv_at hl 0 rfl) ?_
  refine lv_aload_n hx hb d_Y_init_37 rfl (lv_at hl 2 rfl) ?_
  refine va_putF (D := D) (ci := 5) (v := .ref x2) (ty := .object "SafeControl$Graph") (C := n_Y) (T := T_Y) (N := 5) hx hb hts (fun w h => List.mem_cons_of_mem _ (uI_Y w h)) t_Y t_Y_ok nm_Y hown hK hP hD hS 0 rfl rfl 1 (by decide) (hts (.fieldLink n_Y 25 n_Y "graph" "LSafeControl$Graph;") (List.mem_cons_of_mem _ (wImem 141 (by decide +kernel) rfl))) (fun _ h9 => h9) rfl hin rfl (by decide +kernel) rfl rfl (Nat.le_of_ble_eq_true rfl) d_Y_init_38 (fun H locs hP hD hS => ?_)
  have hP : va_P D zcl [(h0, .inr (5, [.ref x1, .ref x2, .ref q8, .ref q17, .ref q26])), (q8, .inl (cA 0, 201, .inl (fun _ => 0))), (q17, .inl (cA 0, 201, .inl (fun _ => 0))), (q26, .inl (cA 0, 201, .inl (fun _ => 0)))] H := hP
  have hD : va_D A [(h0, .inr (5, [.ref x1, .ref x2, .ref q8, .ref q17, .ref q26])), (q8, .inl (cA 0, 201, .inl (fun _ => 0))), (q17, .inl (cA 0, 201, .inl (fun _ => 0))), (q26, .inl (cA 0, 201, .inl (fun _ => 0)))] := hD
  refine W.widen (k := 3) (n := 603) (by decide) (by decide) ?_
  exact W.vret hx hb hr (fun t ht hW => ⟨⟨fun k => [q8, q17, q26].getD k 0, rfl, trivial, by rw [ht]; exact hP, hD⟩, hS.F ht⟩) hS.2.2 d_Y_init_41
abbrev w_P_post (cA : Nat → ClassId) (h0 x1 : Nat) (q : Nat → Nat) : va_W := [(h0, .inr (3, [.ref x1, .ref (q 0), .ref (q 1)])), (q 0, .inl (cA 0, 201, .inl (fun _ => 0))), (q 1, .inl (cA 0, 201, .inl (fun _ => 0)))]
def w_P_init : List Cond := Cond.code y_P_init b_P_init 2 none :: wI
set_option maxHeartbeats 4000000 in
set_option maxRecDepth 100000 in
theorem c_P_init (l : Launch) (D : va_G) (cA : Nat → ClassId) (h0 x1 sz : Nat) : Met l y_P_init w_P_init ({ frames := 1, cells := 2, slots := 402, locals := 12 }) (va_Pc [.ref h0, .ref x1] (fun U => U.heap.size = sz ∧ va_P D zcl [(h0, .inr (3, [.null, .null, .null]))] U.heap ∧ va_K D zcl (zty cA) U ∧ va_D (fun _ => True) [(h0, .inr (3, [.null, .null, .null]))] ∧ zNw U)) (va_Qv (fun q : Nat → Nat => True) (fun q t => va_P D zcl (w_P_post cA h0 x1 q) t.heap ∧ va_D (va_A [(h0, .inr (3, [.null, .null, .null]))] sz) (w_P_post cA h0 x1 q)) (va_A [(h0, .inr (3, [.null, .null, .null]))] sz)) 2 402 (va_A [(h0, .inr (3, [.null, .null, .null]))] sz) := by
  refine Met.ofW (cc := b_P_init) (maxL := 2) (ret := none) (by decide) rfl ?_
  intro p e s m args below meth c s₁ B hml hv
  obtain ⟨rfl, hsz, hP, hK, hD0, hNw⟩ := hv
  have hx := B.exec
  have hb := B.bytes
  have hr := B.returns
  have hts := atoms_spec (ws := w_P_init) B.pre
  have hown : s.vm.findClass n_P = some m.cls := findClass_of_methodNamed B.named
  have hlocks := B.notSynchronized
  have hin : meth.name = "<init>" := (name_of_methodNamed B.named B.method).1
  subst hsz
  have hD := hD0.self (sz := s.heap.size)
  generalize hAe : va_A [(h0, .inr (3, [.null, .null, .null]))] s.heap.size = A at hD ⊢
  have hA : ∀ q : Nat, s.heap.size ≤ q → A q := fun q h => by rw [← hAe]; exact Or.inr h
  have hS : va_S A s.heap s.heap [] := va_S.rf
  have hP : va_P D zcl [(h0, .inr (3, [.null, .null, .null]))] s.heap := hP
  have hl := lv_entry ([.ref h0, .ref x1]) (n := 2) (Nat.le_of_ble_eq_true rfl)
  rw [lg_entry_eq]
  generalize (lg_sl ([.ref h0, .ref x1]) ++ List.replicate (2 - (lg_sl ([.ref h0, .ref x1])).length) Slot.unset).toArray = ls at hl ⊢
  have hl : lv_has ls 2 [(0, .ref h0), (1, .ref x1)] := hl
  refine lv_aload_n hx hb d_P_init_0 rfl (lv_at hl 0 rfl) ?_
  refine W.objInit hx hb hown (hts (.methodLink n_P 3 objectInit) (List.mem_cons_of_mem _ (wImem 161 (by decide +kernel) rfl))) (hts (.instanceMethod objectInit) (List.mem_cons_of_mem _ (wImem 21 (by decide +kernel) rfl))) (hts (.code objectInit ⟨#[0xb1]⟩ 1 none) (List.mem_cons_of_mem _ (wImem 22 (by decide +kernel) rfl))) rfl (by rw [hml]; exact hl.1) rfl d_P_init_1 (Nat.le_of_ble_eq_true rfl) (Nat.le_of_ble_eq_true rfl) ?_
  refine W.eq (g2 := F0 m 4 ls []) rfl ?_
  refine lv_aload_n hx hb d_P_init_4 rfl (lv_at hl 0 rfl) ?_
  refine lv_sipush (v := Int32.ofInt 201) hx hb d_P_init_5 rfl ?_
  refine zn_int hx hb (hts (.arrayClass .int) (List.mem_cons_of_mem _ (wImem 67 (by decide +kernel) rfl))) hK hP hD hS hA 201 (by decide) (by decide) (by decide) (by decide) (by decide) d_P_init_8 (fun q8 H hP hD hS => ?_)
  have hP : va_P D zcl [(h0, .inr (3, [.null, .null, .null])), (q8, .inl (cA 0, 201, .inl (fun _ => 0)))] H := hP
  have hD : va_D A [(h0, .inr (3, [.null, .null, .null])), (q8, .inl (cA 0, 201, .inl (fun _ => 0)))] := hD
  refine va_putF (D := D) (ci := 3) (v := .ref q8) (ty := .array .int) (C := n_P) (T := T_P) (N := 3) hx hb hts (fun w h => List.mem_cons_of_mem _ (uI_P w h)) t_P t_P_ok nm_P hown hK hP hD hS 0 rfl rfl 1 (by decide) (hts (.fieldLink n_P 9 n_P "stateOfA" "[I") (List.mem_cons_of_mem _ (wImem 163 (by decide +kernel) rfl))) (fun _ h9 => h9) rfl hin rfl (by decide +kernel) rfl rfl (Nat.le_of_ble_eq_true rfl) d_P_init_10 (fun H locs hP hD hS => ?_)
  have hP : va_P D zcl [(h0, .inr (3, [.null, .ref q8, .null])), (q8, .inl (cA 0, 201, .inl (fun _ => 0)))] H := hP
  have hD : va_D A [(h0, .inr (3, [.null, .ref q8, .null])), (q8, .inl (cA 0, 201, .inl (fun _ => 0)))] := hD
  refine lv_aload_n hx hb d_P_init_13 rfl (lv_at hl 0 rfl) ?_
  refine lv_sipush (v := Int32.ofInt 201) hx hb d_P_init_14 rfl ?_
  refine zn_int hx hb (hts (.arrayClass .int) (List.mem_cons_of_mem _ (wImem 67 (by decide +kernel) rfl))) hK hP hD hS hA 201 (by decide) (by decide) (by decide) (by decide) (by decide) d_P_init_17 (fun q17 H hP hD hS => ?_)
  have hP : va_P D zcl [(h0, .inr (3, [.null, .ref q8, .null])), (q8, .inl (cA 0, 201, .inl (fun _ => 0))), (q17, .inl (cA 0, 201, .inl (fun _ => 0)))] H := hP
  have hD : va_D A [(h0, .inr (3, [.null, .ref q8, .null])), (q8, .inl (cA 0, 201, .inl (fun _ => 0))), (q17, .inl (cA 0, 201, .inl (fun _ => 0)))] := hD
  refine va_putF (D := D) (ci := 3) (v := .ref q17) (ty := .array .int) (C := n_P) (T := T_P) (N := 3) hx hb hts (fun w h => List.mem_cons_of_mem _ (uI_P w h)) t_P t_P_ok nm_P hown hK hP hD hS 0 rfl rfl 2 (by decide) (hts (.fieldLink n_P 15 n_P "stateOfB" "[I") (List.mem_cons_of_mem _ (wImem 164 (by decide +kernel) rfl))) (fun _ h9 => h9) rfl hin rfl (by decide +kernel) rfl rfl (Nat.le_of_ble_eq_true rfl) d_P_init_19 (fun H locs hP hD hS => ?_)
  have hP : va_P D zcl [(h0, .inr (3, [.null, .ref q8, .ref q17])), (q8, .inl (cA 0, 201, .inl (fun _ => 0))), (q17, .inl (cA 0, 201, .inl (fun _ => 0)))] H := hP
  have hD : va_D A [(h0, .inr (3, [.null, .ref q8, .ref q17])), (q8, .inl (cA 0, 201, .inl (fun _ => 0))), (q17, .inl (cA 0, 201, .inl (fun _ => 0)))] := hD
  refine lv_aload_n hx hb d_P_init_22 rfl (lv_at hl 0 rfl) ?_
  refine lv_aload_n hx hb d_P_init_23 rfl (lv_at hl 1 rfl) ?_
  refine va_putF (D := D) (ci := 3) (v := .ref x1) (ty := .object "SafeControl$Graph") (C := n_P) (T := T_P) (N := 3) hx hb hts (fun w h => List.mem_cons_of_mem _ (uI_P w h)) t_P t_P_ok nm_P hown hK hP hD hS 0 rfl rfl 0 (by decide) (hts (.fieldLink n_P 18 n_P "graph" "LSafeControl$Graph;") (List.mem_cons_of_mem _ (wImem 162 (by decide +kernel) rfl))) (fun _ h9 => h9) rfl hin rfl (by decide +kernel) rfl rfl (Nat.le_of_ble_eq_true rfl) d_P_init_24 (fun H locs hP hD hS => ?_)
  have hP : va_P D zcl [(h0, .inr (3, [.ref x1, .ref q8, .ref q17])), (q8, .inl (cA 0, 201, .inl (fun _ => 0))), (q17, .inl (cA 0, 201, .inl (fun _ => 0)))] H := hP
  have hD : va_D A [(h0, .inr (3, [.ref x1, .ref q8, .ref q17])), (q8, .inl (cA 0, 201, .inl (fun _ => 0))), (q17, .inl (cA 0, 201, .inl (fun _ => 0)))] := hD
  refine W.widen (k := 2) (n := 402) (by decide) (by decide) ?_
  exact W.vret hx hb hr (fun t ht hW => ⟨⟨fun k => [q8, q17].getD k 0, rfl, trivial, by rw [ht]; exact hP, hD⟩, hS.F ht⟩) hS.2.2 d_P_init_27
