/-! THE CLAIM OUT OF ONE WALK OF THE LAW'S BODY. Your part is whole_start (and what it stands on); all else here is the same for every law, but numbers. -/
def R_law : String := "SafeControlLaw"
def lw_P (b : Addr) (xs : List Int32) (args : Array Value) (s : State) : Prop := args = #[.ref b] ∧ s.IntsAt b xs ∧ xs.length ≤ 2560 ∧ (Jvm.Cond.and given_1 narrow_1).before args s = true
def lw_Q (_ : Array Value) (s : State) (o : Outcome) (t : State) : Prop := o = .returned (some (.int 1)) ∧ Framed s o t [] 601024 7293034
def lw_Z (below : List Frame) (a : Array Value) (s : State) : State → Prop := fun t => ∃ o, t.status = .running ∧ Ended t below o ∧ lw_Q a s o t
/-- the law's own end, with 1 on the stack, nothing written that was there before, its room as the claim has it -/
theorem lw_ret {p : Program} {l : Launch} {e : Env} {s : State} {m : MethodId} {below : List Frame} {meth : Method} {c : Code} {b : Nat} (hx : p.tables.exec = Jvm.exec) (hb : c.code = code) (hr : meth.sig.returnType = ret) (hlocks : meth.locks = false) {pc : Nat} {H : Heap} {ls : Array Slot} (hdg : decode code pc = .ok (.ireturn, 1)) : W p l e room_1 s m #[Value.ref b] below meth c H [] 601024 7293034 (lw_Z below #[Value.ref b] s) (F0 m pc ls [.int 1]) := by
  intro T hT X
  obtain ⟨fs, hret, hrun, hended, hW, hframe⟩ := X.leave (v := some (.int 1)) (hlocks := hlocks) (fun h => by rw [hr] at h; cases h)
  have hmeth' : T.vm.method? m = some meth := X.method'
  refine ⟨T.setFrames fs, ?_, .returned (some (.int 1)), hrun, hended, rfl, ⟨_, rfl⟩, hW, hframe⟩
  jvm_step X.here [X.here.top, hx, hb, hdg, hmeth', hr, ret, narrow_b1]
  (try refine ⟨rfl, ?_⟩); (try refine ⟨rfl, ?_⟩)
  first | (intro acts; rw [hret _ acts rfl rfl rfl]) | rw [hret _ _ rfl rfl rfl]
  exact Steps.refl _
/-- what holds at the law's entry: the machine, the code, the tables' words (any of lw_tbl by 'hts w (by decide +kernel)'), the script of L ints xs at the cell b, what the Statement gives of the start (any of its parts by flat_of_before) -/
def lw_At (p : Program) (s : State) (m : MethodId) (meth : Method) (c : Code) (b L : Nat) (xs : Nat → Int32) : Prop :=
  p.tables.exec = Jvm.exec ∧ c.code = code ∧ meth.sig.returnType = ret ∧ c.maxLocals = 7 ∧ s.vm.findClass R_law = some m.cls ∧ (∀ w ∈ lw_tbl, w.before #[Value.ref b] s = true) ∧ va_X b L xs s s.heap ∧ b < s.heap.size ∧ meth.locks = false ∧ (Jvm.Cond.and given_1 narrow_1).before #[Value.ref b] s = true
/-! the first world -/
def a0 : aT := (0, fun _ => 1, fun _ => false, fun _ => -1, fun _ _ => false, fun _ _ => false, fun _ _ _ => -1, fun _ => false, fun _ => false)
theorem a0_ok : aOk a0 := ⟨Nat.zero_le 4, fun i hi => absurd hi (Nat.not_lt_zero i)⟩
theorem cWor_0 : cWor a0 none mL := by
  refine ⟨a0_ok, ⟨rfl, ?_, ?_, fun i hi => absurd hi (Nat.not_lt_zero i)⟩, ⟨[], rfl, by simp, fun k c h => by simp at h, fun c hc _ => ?_⟩, ?_, Or.inl ⟨rfl, rfl⟩⟩
  · show zmask 12 0 _
    exact zmask_zero (fun _ _ => rfl)
  · show zmask 12 0 _
    exact zmask_zero (fun _ _ => rfl)
  · unfold mL
    rw [if_neg (by decide)]
  · have : mL 33 0 = 0 := rfl
    rw [this]
    omega
theorem rWor_0 : rWor a0 none mL := by
  refine ⟨a0_ok, ⟨rfl, fun i hi => absurd hi (Nat.not_lt_zero i), fun e he => ⟨?_, Or.inl ?_, fun h => by cases h⟩⟩, Or.inl ⟨rfl, rfl, rfl⟩⟩
  · unfold mL
    rw [if_neg (by decide)]
    rfl
  · unfold mL
    rw [if_neg (by decide)]
theorem law_end {p : Program} {l : Launch} {e : Env} {s : State} {m : MethodId} {below : List Frame} {meth : Method} {c : Code} {D : va_G} {cA : Nat → ClassId} {ad : Nat → Nat} {b k0 s0 : Nat} (hge : ∀ q, q < zN → s.heap.size ≤ ad q) (hk : k0 + 1600 ≤ 601024 ∧ s0 + 9600 ≤ 7293034) (n : Nat) (μ : zM) (i : Int) (hn : n ≤ 1545) :
    zU (p, l, e, s, m, #[Value.ref b], below, meth, c, D, cA, ad) b_L_law n_L 7 (some .boolean) [] room_1 k0 s0 (lw_Z below #[Value.ref b] s) false n μ 1113 [some (zp 77), some (zp 0), some (zp 51), some (zp 76), some (zi i), none, none] [] := by
  intro X H locs ls hP hS hb hl
  obtain ⟨hx1, hb1, hml, hrt, hlk, _⟩ := id X
  refine va_forget (fun q hq => ?_) ?_
  · rcases hS.2.2 q hq with ⟨j, hj, h⟩ | h
    · rw [← h]; exact hge j hj
    · exact h
  · refine lv_iconst (v := 1) hx1 hb1 d_L_law_1113 rfl ?_
    refine W.widen (k := 601024) (n := 7293034) (by omega) (by omega) ?_
    exact lw_ret hx1 hb1 hrt hlk d_L_law_1114
set_option maxHeartbeats 8000000 in
set_option maxRecDepth 100000 in
theorem whole_start {p : Program} {e : Env} {s : State} {m : MethodId} {below : List Frame} {meth : Method} {c : Code} (l : Launch) (htr : l.stackTraces = false) (hpt : e.platform.stackTraces = false) {b L : Nat} {xs : Nat → Int32} (hL : L ≤ 2560) (C0 : lw_At p s m meth c b L xs) (hex : c.exceptionTable.toList.map (fun h => (h.startPc, h.endPc, h.handlerPc, h.catchType)) = []) : W p l e room_1 s m #[Value.ref b] below meth c s.heap [] 0 0 (lw_Z below #[Value.ref b] s) (entryFrame m ([Value.ref b] : List Value).toArray 7) := by
  obtain ⟨hx, hb, hr, hml, hown, hts, hX, hbl, hlocks, hgv⟩ := C0
  have hb : c.code = b_L_law := hb
  have hown : s.vm.findClass n_L = some m.cls := hown
  obtain ⟨D, cA, hK⟩ := lw_zK hts
  have hTb := lw_zTb hts hgv
  have hNw := lw_zNw hts
  obtain ⟨A, hAe⟩ : ∃ A : Nat → Prop, A = fun q => s.heap.size ≤ q := ⟨_, rfl⟩
  have hA : ∀ q : Nat, s.heap.size ≤ q → A q := fun q h => by rw [hAe]; exact h
  have hS : va_S A s.heap s.heap [] := va_S.rf
  have hP : va_P D zcl [] s.heap := fun k q h => by simp at h
  have hD : va_D A [] := ⟨fun i j p q h => by simp at h, fun k q h => by simp at h⟩
  have hl := lv_entry ([.ref b]) (n := 7) (Nat.le_of_ble_eq_true rfl)
  rw [lg_entry_eq]
  generalize (lg_sl ([.ref b]) ++ List.replicate (7 - (lg_sl ([.ref b])).length) Slot.unset).toArray = ls at hl ⊢
  have hl : lv_has ls 7 [(0, .ref b)] := hl
  refine va_new (ci := 6) (fs := [.null, .null, .null, .null, .null, .null, .int 0, .int 0]) (C := n_C) (T := T_C) (N := 8) hx hb hts (fun w h => wI_tbl w (uI_C w h)) t_C t_C_ok hown (hts (.classLink n_L 8 n_C) (List.mem_append_right _ (List.mem_of_getElem? (i := 15) (by decide +kernel)))) (hts (.instantiable n_C 8) (List.mem_append_right _ (List.mem_of_getElem? (i := 16) (by decide +kernel)))) (hts (.initialized n_C) (List.mem_append_right _ (List.mem_of_getElem? (i := 1) (by decide +kernel)))) hK hP hD hS hA rfl df_C (by decide) (by decide) d_L_law_0 (fun q0 H hP hD hS => ?_)
  have hP : va_P D zcl [(q0, .inr (6, [.null, .null, .null, .null, .null, .null, .int 0, .int 0]))] H := hP
  have hD : va_D A [(q0, .inr (6, [.null, .null, .null, .null, .null, .null, .int 0, .int 0]))] := hD
  refine lv_dup hx hb d_L_law_3 rfl ?_
  refine W.widen (k := 1) (n := 8) (by decide) (by decide) ?_
  have hPc := hP
  have hDc := hD
  have hFc := va_free (wc := [(q0, .inr (6, [.null, .null, .null, .null, .null, .null, .int 0, .int 0]))]) hD hS hA [0] rfl
  refine va_callv (va_runI (As := []) (rest := [.ref q0]) ⟨hx, hb, hml, hown, hts⟩ (c_C_init l D cA q0 H.size) (cwI 0 hts (wIgood wI_tbl (wImem 19 (by decide +kernel) rfl)) rfl rfl rfl (hts (.initialized n_C) (List.mem_append_right _ (List.mem_of_getElem? (i := 1) (by decide +kernel)))) (hts (.methodLink n_L 69 y_C_init) (List.mem_append_right _ (List.mem_of_getElem? (i := 17) (by decide +kernel)))) (hts (.instanceMethod y_C_init) (List.mem_append_right _ (List.mem_of_getElem? (i := 18) (by decide +kernel)))) rfl (by decide +kernel) ⟨Nat.le_of_ble_eq_true rfl, Nat.le_of_ble_eq_true rfl⟩) ⟨fun a U g mk q => by obtain ⟨q0, q1, qP, qK, qD, qN⟩ := q; exact ⟨q0, q1, qP, va_K.moved (u := U) (U := U.calling g mk a) (Vm.Alike.refl U.vm) qK, qD, qN.calling⟩, fun U hU hW => ⟨rfl, by rw [hU], by rw [hU]; exact hPc, va_K.moved hW.alike hK, hDc.weaken (fun _ _ _ _ => trivial), hNw.warm hW⟩⟩ rfl rfl hl.1 rfl (lv_room (Nat.le_of_ble_eq_true rfl)) d_L_law_4 ⟨by decide, by decide⟩) hS (fun q _ h => hFc q h) hFc (fun u4 t H1 locs ht hvm _ hB hz1 hk1 hS => ?_)
  obtain ⟨hP1, hD1⟩ := hB
  rw [ht] at hP1
  obtain ⟨hP, hD⟩ := va_join (wr := []) (w1 := w_C_post cA q0 u4) hP hD [0] [] rfl rfl (by decide) (by decide) hk1 hFc hP1 hD1
  generalize H1 = H at hP hS ⊢
  have hP : va_P D zcl (w_C_post cA q0 u4) H := hP
  have hD : va_D A (w_C_post cA q0 u4) := hD
  refine lv_astore_n (lv' := [(1, .ref q0), (0, .ref b)]) hx hb d_L_law_7 rfl hl (by decide) rfl (fun ls hl => ?_)
  refine va_new (ci := 7) (fs := [.int 0, .int 0, .null, .null, .null, .null, .null, .null, .null, .null, .null, .null, .null, .null, .null, .null, .null, .int 0, .int 0, .null, .null, .null, .null, .null, .null, .int 0, .int 0, .null, .int 0, .int 0, .null, .null]) (C := n_R) (T := T_R) (N := 32) hx hb hts (fun w h => wI_tbl w (uI_R w h)) t_R t_R_ok hown (hts (.classLink n_L 70 n_R) (List.mem_append_right _ (List.mem_of_getElem? (i := 706) (by decide +kernel)))) (hts (.instantiable n_R 32) (List.mem_append_right _ (List.mem_of_getElem? (i := 707) (by decide +kernel)))) (hts (.initialized n_R) (List.mem_append_right _ (List.mem_of_getElem? (i := 8) (by decide +kernel)))) hK hP hD hS hA rfl df_R (by decide) (by decide) d_L_law_8 (fun q8 H hP hD hS => ?_)
  refine lv_dup hx hb d_L_law_11 rfl ?_
  refine W.widen (k := 52) (n := 21418) (by decide) (by decide) ?_
  have hPc := hP.sub (ws' := [(q8, .inr (7, [.int 0, .int 0, .null, .null, .null, .null, .null, .null, .null, .null, .null, .null, .null, .null, .null, .null, .null, .int 0, .int 0, .null, .null, .null, .null, .null, .null, .int 0, .int 0, .null, .int 0, .int 0, .null, .null]))]) [51] rfl
  have hDc := hD.sub (ws' := [(q8, .inr (7, [.int 0, .int 0, .null, .null, .null, .null, .null, .null, .null, .null, .null, .null, .null, .null, .null, .null, .null, .int 0, .int 0, .null, .null, .null, .null, .null, .null, .int 0, .int 0, .null, .int 0, .int 0, .null, .null]))]) [51] (by decide) rfl
  have hFc := va_free (wc := [(q8, .inr (7, [.int 0, .int 0, .null, .null, .null, .null, .null, .null, .null, .null, .null, .null, .null, .null, .null, .null, .null, .int 0, .int 0, .null, .null, .null, .null, .null, .null, .int 0, .int 0, .null, .int 0, .int 0, .null, .null]))]) hD hS hA [51] rfl
  refine va_callv (va_runI (As := []) (rest := [.ref q8]) ⟨hx, hb, hml, hown, hts⟩ (c_R_init l D cA q8 H.size) (cwI 0 hts (wIgood wI_tbl (wImem 710 (by decide +kernel) rfl)) rfl rfl rfl (hts (.initialized n_R) (List.mem_append_right _ (List.mem_of_getElem? (i := 8) (by decide +kernel)))) (hts (.methodLink n_L 72 y_R_init) (List.mem_append_right _ (List.mem_of_getElem? (i := 708) (by decide +kernel)))) (hts (.instanceMethod y_R_init) (List.mem_append_right _ (List.mem_of_getElem? (i := 709) (by decide +kernel)))) rfl (by decide +kernel) ⟨Nat.le_of_ble_eq_true rfl, Nat.le_of_ble_eq_true rfl⟩) ⟨fun a U g mk q => by obtain ⟨q0, q1, qP, qK, qD, qN⟩ := q; exact ⟨q0, q1, qP, va_K.moved (u := U) (U := U.calling g mk a) (Vm.Alike.refl U.vm) qK, qD, qN.calling⟩, fun U hU hW => ⟨rfl, by rw [hU], by rw [hU]; exact hPc, va_K.moved hW.alike hK, hDc.weaken (fun _ _ _ _ => trivial), hNw.warm hW⟩⟩ rfl rfl hl.1 rfl (lv_room (Nat.le_of_ble_eq_true rfl)) d_L_law_12 ⟨by decide, by decide⟩) hS (fun q _ h => hFc q h) hFc (fun u12 t H1 locs ht hvm _ hB hz1 hk1 hS => ?_)
  obtain ⟨hP1, hD1⟩ := hB
  rw [ht] at hP1
  obtain ⟨hP, hD⟩ := va_join (wr := w_C_post cA q0 u4) (w1 := w_R_post cA q8 u12) hP hD [51] (List.range 51) rfl rfl (by decide) (by decide) hk1 hFc hP1 hD1
  generalize H1 = H at hP hS ⊢
  refine lv_astore_n (lv' := [(2, .ref q8), (1, .ref q0), (0, .ref b)]) hx hb d_L_law_15 rfl hl (by decide) rfl (fun ls hl => ?_)
  refine lv_iconst (v := Int32.ofInt 1) hx hb d_L_law_16 rfl ?_
  refine zn_long hx hb (hts (.arrayClass .long) (List.mem_append_right _ (List.mem_of_getElem? (i := 967) (by decide +kernel)))) hK hP hD hS hA 1 (by decide) (by decide) (by decide) (by decide) (by decide) d_L_law_17 (fun q17 H hP hD hS => ?_)
  rw [List.append_assoc] at hP hD
  refine lv_astore_n (lv' := [(3, .ref q17), (2, .ref q8), (1, .ref q0), (0, .ref b)]) hx hb d_L_law_19 rfl hl (by decide) rfl (fun ls hl => ?_)
  refine lv_iconst (v := Int32.ofInt 0) hx hb d_L_law_20 rfl ?_
  refine lv_istore (lv' := [(4, .int (Int32.ofInt 0)), (3, .ref q17), (2, .ref q8), (1, .ref q0), (0, .ref b)]) hx hb d_L_law_21 hl (by decide) rfl (fun ls hl => ?_)
  refine W.widen (k := 77) (n := 40394) (by decide) (by decide) ?_
  have hget := wL_get cA q0 u4 q8 u12 q17 b
  have hge : ∀ q, q < zN → s.heap.size ≤ adL q0 u4 q8 u12 q17 b q := fun q hq => by
    obtain ⟨e', he'⟩ := hget q hq
    have := hD.2 q _ he'
    rw [hAe] at this
    exact this
  have hJ : zJ (adL q0 u4 q8 u12 q17 b) := fun i j hi hj h => by
    obtain ⟨e1, he1⟩ := hget i hi
    obtain ⟨e2, he2⟩ := hget j hj
    exact hD.1 i j _ _ he1 he2 h
  have hnA : ∀ q, q < s.heap.size → ¬ zA (adL q0 u4 q8 u12 q17 b) s.heap.size q := fun q hq h => by
    rcases h with ⟨j, hj, h⟩ | h
    · have := hge j hj
      omega
    · omega
  have hNs : zNst (adL q0 u4 q8 u12 q17 b) s := fun q cell hq _ j hj h => by
    have h1 := (Array.getElem?_eq_some_iff.mp hq).1
    have h2 := hge j hj
    omega
  have hSc : zScr (p, l, e, s, m, #[Value.ref b], below, meth, c, D, cA, adL q0 u4 q8 u12 q17 b) L xs := ⟨hX, hbl, hnA b hbl⟩
  have hS2 : va_S (zA (adL q0 u4 q8 u12 q17 b) s.heap.size) s.heap H locs := ⟨hS.1, fun q h1 _ => hS.2.1 q h1 (by rw [hAe]; intro h; omega), fun q hq => Or.inr (by have := hS.2.2 q hq; rw [hAe] at this; exact this)⟩
  have hzL : zL (adL q0 u4 q8 u12 q17 b) 7 [some (zp 77), some (zp 0), some (zp 51), some (zp 76), some (zi ((5 * 0 : Nat) : Int)), none, none] ls := by
    refine ⟨rfl, hl.1, hl.2.1, fun i v hi => ?_⟩
    match i, hi with
    | 0, hi => cases hi; exact ⟨rfl, lv_at hl 4 rfl⟩
    | 1, hi => cases hi; exact ⟨rfl, lv_at hl 3 rfl⟩
    | 2, hi => cases hi; exact ⟨rfl, lv_at hl 2 rfl⟩
    | 3, hi => cases hi; exact ⟨rfl, lv_at hl 1 rfl⟩
    | 4, hi => cases hi; exact ⟨rfl, lv_at hl 0 rfl⟩
    | 5, hi => cases hi
    | 6, hi => cases hi
    | i + 7, hi => simp at hi
  have hz := law_go (k0 := 77) (s0 := 40394) (Fn := lw_Z below #[Value.ref b] s) hSc hL (by decide) (fun n μ i hn => law_end hge (by decide) n μ i hn) (L + 5) 0 a0 none mL (by omega) cWor_0 rWor_0
  exact hz ⟨hx, hb, hml, hr, hlocks, hex, hown, hTb, hK, hJ, htr, hpt, hNs⟩ H locs ls (wL_zW hP) hS2 (fun h => by cases h) hzL
set_option maxHeartbeats 4000000 in
theorem lw_walk (l : Launch) (htr : l.stackTraces = false) (b : Addr) (xs : List Int32) : MetFree l x (headSpec (Jvm.Cond.code x code maxLocals ret :: tables_1) room_1) (lw_P b xs) (fun _ _ _ _ _ => True) lw_Q := by
  refine MetFree.of_bodyS (code := code) (maxLocals := maxLocals) (ret := ret) (by decide) ?_ ?_
  · intro args s m h hn
    obtain ⟨meth, c, h1, h2, h3, h4, h5, h6, -, -⟩ := Cond.code_spec hn (atoms_spec (ws := Jvm.Cond.code x code maxLocals ret :: tables_1) h _ List.mem_cons_self)
    exact ⟨meth, c, h1, h2, h3, h4, h5, h6⟩
  · intro p e s m args below meth c s₁ B hml0 hP _
    obtain ⟨rfl, hx, hbd, hgv⟩ := hP
    obtain ⟨scr, harrAt, hlist, hof, hsmall⟩ := hx
    obtain ⟨hcb, hkn, -, -⟩ := State.arrayAt?_spec harrAt
    have hown : s.vm.findClass R_law = some m.cls := findClass_of_methodNamed B.named
    have hts0 : ∀ c ∈ (Jvm.Cond.code x code maxLocals ret :: tables_1), c.before #[Value.ref b] s = true := atoms_spec (ws := Jvm.Cond.code x code maxLocals ret :: tables_1) B.pre
    have hts : ∀ w ∈ lw_tbl, w.before #[Value.ref b] s = true := k2_hts_sels lw_privs (fun w hw => hts0 w (List.mem_cons_of_mem _ hw)) lw_privs_ok
    have hml : c.maxLocals = 7 := B.maxLocals_eq (hts0 _ List.mem_cons_self)
    have X₀ : Stand p l e room_1 s m #[Value.ref b] below meth c s₁ [] 0 0 := Stand.of_body B
    have hh0 : s₁.heap = s.heap := by rw [B.state]; rfl
    have hsz : scr.slots.size = xs.length := by rw [← Array.length_toList, hlist, List.length_map]
    have hval : ∀ j : Nat, j < xs.length → scr.slots[j]? = some (.int (xs.getD j 0)) := fun j hj => by
      rw [← Array.getElem?_toList, hlist]
      simp [hj]
    have hbl : b < s.heap.size := (Array.getElem?_eq_some_iff.mp hcb).1
    have hX : va_X b xs.length (fun j => xs.getD j 0) s s.heap := ⟨scr, hcb, hof, hkn, hsz, hval⟩
    have K : W p l e room_1 s m #[Value.ref b] below meth c s₁.heap [] 0 0 (lw_Z below #[Value.ref b] s) (entryFrame m ([Value.ref b] : List Value).toArray 7) := by
      rw [hh0]
      obtain ⟨meth', c', g1, g2, -, -, -, -, g7, -⟩ := zhd_spec (hh := []) B.named (hts0 _ List.mem_cons_self)
      cases B.method.symm.trans g1
      cases X₀.code.symm.trans g2
      exact whole_start l htr (by rw [B.admits.platform]; exact htr) hbd ⟨B.exec, B.bytes, B.returns, hml, hown, hts, hX, hbl, B.notSynchronized, hgv⟩ g7
    obtain ⟨t, a1, o, b1, b2, b3⟩ := K s₁ rfl X₀
    exact ⟨t, o, a1, b1, b2, b3⟩
theorem lw_pre_spec {args : Array Value} {s : State} (h : (Jvm.Cond.and given_1 narrow_1).before args s = true) (hr : rest_1_c.before args s = true) : ∃ (b : Addr) (xs : List Int32), lw_P b xs args s := by
  have hs := flat_of_before _ h
  have hq := flat_of_before _ hr
  have hc : (Cond.count 1).before args s = true := hs _ (by decide +kernel)
  have harr : (Cond.arrayOf (.arg 0) .int).before args s = true := hs _ (by decide +kernel)
  have hle : (Cond.le (.length (.arg 0)) (.int 2560)).before args s = true := hs _ (by decide +kernel)
  have hlen : (Cond.isInt (.length (.arg 0))).before args s = true := hq _ (by decide +kernel)
  have hall : (Cond.all (.arg 0) (.isInt (.elem (.arg 0) (.index 0)))).before args s = true := hq _ (by decide +kernel)
  obtain ⟨b, xs, hb, hx⟩ := State.ints_of_pre rfl harr hlen hall
  have hsm : xs.length < 2 ^ 31 := hx.choose_spec.2.2.2
  have hev : (Term.length (.arg 0)).eval args s none [] s = some (.int xs.length.toInt32) := hx.length_eval hb
  have hv := Cond.le_ints hev (show (Term.int 2560).eval args s none [] s = some (.int 2560) from rfl)
  have hd : xs.length.toInt32 ≤ 2560 := by
    simpa [Cond.before, Cond.holds, hv] using hle
  have hN : xs.length ≤ 2560 := (Int32.ofNat_le_ofNat hsm (by decide)).mp (show Int32.ofNat xs.length ≤ Int32.ofNat 2560 from hd)
  exact ⟨b, xs, Cond.one_arg hc (show args[0]? = some (.ref b) from hb), hx, hN, h⟩
theorem lw_comes (l : Launch) (htr : l.stackTraces = false) : Comes l x (Jvm.Cond.code x code maxLocals ret :: tables_1) room_1 (fun tb e args s => Calls_1 tb e args s ∧ rest_1 tb e args s ∧ Pre_1 tb e args s)
    (fun _ _ args s o t => lw_Q args s o t) := by
  intro p e ha hc hk s m args below hf hfit hheap happ hpre
  obtain ⟨b, xs, hP⟩ := lw_pre_spec hpre.2.2 hpre.2.1
  obtain ⟨k, o, h1, h2, h3, hQ⟩ := lw_walk l htr b xs p e ha hc hk s m args below hf ((Spec.applies_iff_loose hf).mp happ).1 hP trivial
  exact ⟨k, o, h1, h2, h3, hQ⟩
theorem lw_frame {s t : State} {o : Outcome} {args : Array Value} (h : Framed s o t [] 601024 7293034) :
    Framed s o t (fieldLocs frame_1_writes args s ++ arrayLocs frame_1_arrays args s ++ staticLocs frame_1_statics s) 601024 7293034 := h
theorem lw_limb (L : Cond) (hL : ∀ (args : Array Value) (s t : State), L.after args s (.returned (some (.int 1))) t = true) :
    ArmFor flags0 classFile x code maxLocals ret World_1 tables_1 room_1 Calls_1 rest_1 Pre_1
      (fun tb e a s o t => postC L tb e a s o t ∧ Framed s o t (fieldLocs frame_1_writes a s ++ arrayLocs frame_1_arrays a s ++ staticLocs frame_1_statics s) 601024 7293034) := by
  intro l hfl _ _ p e ha hc hk s m args below hf hfit hheap happ hpre
  obtain ⟨k, o, h1, h2, h3, rfl, hF⟩ := lw_comes l (by unfold Launch.stackTraces; rw [hfl]; decide +kernel) p e ha hc hk s m args below hf hfit hheap happ hpre
  exact ⟨k, _, h1, h2, h3, hL args s _, lw_frame hF⟩
theorem i_vc : Claimed_1_1 ∧ Claimed_1_2 := ⟨lw_limb limb_1_1 (fun args s t => by simp [limb_1_1, Cond.after, Cond.holds, Cond.value]), lw_limb limb_1_2 (fun args s t => Cond.after_iff.mpr (by
  first | (rw [show limb_1_2 = Cond.eq .result (.int 1) from rfl, Cond.eq_ints (x := 1) (y := 1) rfl rfl]; simp; done) | (simp [limb_1_2, Cond.value, Term.eval]; done)))⟩

