/-! calls: the callee may return or throw -/
section ZB
variable {l : Launch} {R : Room} {p : Program} {e : Env} {below : List Frame} {s : State} {sargs : Array Value} {y : MethodName} {len W : Nat} {S : Spec} {P : Array Value → State → Prop} {Q : Array Value → State → Outcome → State → Prop} {maxL k n : Nat} {m : MethodId} {meth : Method} {c : Code} {U : State} {Ls : List Loc} {c0 s0 : Nat} {g : JFrame} {ig : Instr} {mk : MethodId} {a : Array Value} {E : List Loc → Prop}
set_option maxHeartbeats 1000000 in
theorem zback (hM : MetFree l y S P (fun _ _ _ _ _ => True) Q) (hframes : S.room.frames + 1 ≤ R.frames) (hlocals : W + (maxL + 11) + S.room.locals ≤ R.locals)
    (X : Stand p l e R s m sargs below meth c U Ls c0 s0) (hg : g.method = m) (hsize : g.locals.size = c.maxLocals) (hdg : decode c.code g.pc = .ok (ig, len)) (hW : 2 * g.monitorRoom + (g.stack.map fun v => v.category).sum ≤ W) (hn : U.methodNamed? y = some mk)
    (h1 : S.pre.before a U = true) {methY : Method} {cY : Code} (hmY : U.vm.method? mk = some methY) (hcY : methY.code = some cY) (hlY : cY.maxLocals = maxL) (h3 : (Cond.initialized y.cls).before a U = true) (h4 : c0 + S.room.cells ≤ R.cells) (h5 : s0 + S.room.slots ≤ R.slots)
    (hP : P a (U.calling g mk a)) (hQ : ∀ o t, Q a (U.calling g mk a) o t → (U.calling g mk a).WarmedH t.vm ∧ ∃ Lc, (U.calling g mk a).sameButNew ({ t with vm := (U.calling g mk a).vm } : State) Lc k n ∧ E Lc) :
    ∃ (o : Outcome) (t T' : State) (Lc : List Loc), Q a (U.calling g mk a) o t ∧ T'.heap = t.heap ∧ T'.vm = t.vm ∧ E Lc ∧ Stand p l e R s m sargs below meth c T' (Ls ++ Lc) (c0 + k) (s0 + n) ∧
      (∀ v, o = .returned v → Steps p.tables e below (doInvoke e (U.setTop g) [] mk a).1 (T'.setTop { g with pc := g.pc + len, stack := v.toList ++ g.stack })) ∧
      (∀ x, o = .threw x → Steps p.tables e below (doInvoke e (U.setTop g) [] mk a).1 ((T'.setTop g).pushFrame (.throwing x))) := by
  obtain ⟨kY, hkY, -⟩ := className_of_methodNamed hn
  have hinitY : kY.init = .initialized := Cond.initialized_spec (findClass_of_methodNamed hn) hkY h3
  have h : At U g.method c below := by rw [hg]; exact X.here
  have happ : S.appliesLoose y e.platform (U.calling g mk a) = true :=
    Spec.appliesLoose_calling (g := g) h hdg hn hkY hinitY (X.room_calling (g := g) (R' := S.room) hsize hmY hcY hframes (by rw [hlY]; omega) h4 h5) h1
  obtain ⟨mid, hmid⟩ := h.above
  have hfr : (U.setTop g).frames = (.java g :: mid) ++ below := by rw [State.frames_setTop' g h.top, hmid]; rfl
  obtain ⟨o, s₂, hsteps, -, hend, hq⟩ := Steps.callFree hM p X.admits X.cas X.clock (acts := []) hfr happ hP trivial
  rw [State.frames_setTop' g h.top] at hend
  have hq' : Q a (U.calling g mk a) o s₂ := hq
  obtain ⟨hW₂, Lc, ⟨e2, q2, q3, q4, q5, q6⟩, hE⟩ := hQ o s₂ hq'
  have e3 : s₂ = ({ (U.calling g mk a).setFrames s₂.frames with heap := s₂.heap, slotsUsed := s₂.slotsUsed } : State).setVm s₂.vm := by
    have : s₂ = ({ s₂ with vm := (U.calling g mk a).vm } : State).setVm s₂.vm := rfl
    rw [e2] at this
    exact this
  have hW' : U.WarmedH s₂.vm := hW₂
  obtain ⟨g₀, hg0⟩ := Option.isSome_iff_exists.mp h.top
  obtain ⟨r, hr⟩ := State.topJava?_eq_some.mp hg0
  have hr' : (({ U with heap := s₂.heap, slotsUsed := s₂.slotsUsed } : State).setVm s₂.vm).frames = .java g₀ :: r := hr
  have hsame : U.sameButNew ({ U with heap := s₂.heap, slotsUsed := s₂.slotsUsed } : State) Lc k n := by
    refine ⟨?_, q2, q3, q4, q5, q6⟩
    obtain ⟨t, ht, -⟩ := State.frames_cons hr
    show ({ U with heap := s₂.heap, slotsUsed := s₂.slotsUsed } : State) = { U.setFrames U.frames with heap := s₂.heap, slotsUsed := s₂.slotsUsed }
    rw [State.setFrames_self ht]
  refine ⟨o, s₂, ({ U with heap := s₂.heap, slotsUsed := s₂.slotsUsed } : State).setVm s₂.vm, Lc, hq', rfl, rfl, hE, ?_, ?_, ?_⟩
  · subst hg
    exact ⟨X.admits, X.cas, X.clock, X.frames, X.room, X.hears, X.method, X.code, (X.here.setHeapUsed s₂.heap s₂.slotsUsed).setVm hW'.alike, X.tail, State.WarmedH.trans X.warmed hW', X.limits, X.bytes, X.same.trans (hsame.setVm s.vm)⟩
  · intro v hv
    subst hv
    obtain ⟨c₂, i₂, len₂, hc₂, hd₂, hf₂⟩ := hend
    have hcc : c₂ = c := by
      have h1 : s₂.code? g.method = U.code? g.method := by
        rw [State.code?_eq, State.code?_eq, hW'.alike.method?]
      exact Option.some.inj (hc₂.symm.trans (h1.trans h.code))
    subst hcc
    have hlen : len₂ = len := by rw [hdg] at hd₂; cases hd₂; rfl
    subst hlen
    have hs₂ : s₂ = (({ U with heap := s₂.heap, slotsUsed := s₂.slotsUsed } : State).setVm s₂.vm).setTop { g with pc := g.pc + len₂, stack := v.toList ++ g.stack } := by
      refine e3.trans ?_
      rw [hf₂, State.calling_eq h.top, State.setFrames_setFrames, State.setTop_of_frames _ hr', hr]
      rfl
    rw [← hs₂]
    exact hsteps
  · intro x hx
    subst hx
    have hf₂ : s₂.frames = .throwing x :: .java g :: U.frames.tail := hend
    have hs₂ : s₂ = ((({ U with heap := s₂.heap, slotsUsed := s₂.slotsUsed } : State).setVm s₂.vm).setTop g).pushFrame (.throwing x) := by
      refine e3.trans ?_
      rw [hf₂, State.calling_eq h.top, State.setFrames_setFrames, State.pushFrame, State.frames_setTop _ hr', State.setTop_of_frames _ hr', State.setFrames_setFrames, hr]
      rfl
    rw [← hs₂]
    exact hsteps
end ZB
/-- old cells that no road has written are as they were -/
theorem zsame_nil {s t : State} {k n : Nat} (h : s.sameButNew t [] k n) : ∀ q : Nat, q < s.heap.size → t.heap[q]? = s.heap[q]? := by
  intro q hq
  obtain ⟨-, -, -, -, -, h6⟩ := h
  obtain ⟨c, hc⟩ : ∃ c, s.heap[q]? = some c := ⟨_, Array.getElem?_eq_getElem hq⟩
  obtain ⟨c', g1, g2, g3, g4⟩ := h6 q c hc
  have : c'.slots = c.slots := Array.ext_getElem? (fun i => g4 i (by simp))
  rw [g1, hc, g2, this]
section ZT
variable {p : Program} {l : Launch} {e : Env} {s : State} {m : MethodId} {args : Array Value} {below : List Frame} {meth : Method} {c : Code} {D : va_G} {cA : Nat → ClassId} {ad : Nat → Nat}
variable {cc : ByteArray} {own : String} {nL : Nat} {rt : Option FieldType} {hh : List (Nat × Nat × Nat × Nat)} {R : Room} {k0 s0 : Nat} {Fn : State → Prop} {fr nb lo : Nat} {pb b : Bool} {Q : zO → zM → Prop} {n : Nat} {μ : zM} {pc : Nat} {L : List (Option zV)} {st : List zV}
variable {y : MethodName} {cc' : ByteArray} {nL' : Nat} {rt' : Option FieldType} {hh' : List (Nat × Nat × Nat × Nat)} {fr' nb' lo' : Nat} {pb' : Bool} {Q' : zO → zM → Prop} {as : List zV}
/-- the memory behind a callee's end, seen from the caller -/
theorem zS_after {H : Heap} {st0 t : State} {locs Lc : List Loc} {s0 : State} (hS : va_S (zA ad s0.heap.size) s0.heap H locs) (h0 : st0.heap = H) (hF : va_F (zA ad st0.heap.size) st0 t) (hL : ∀ q ∈ Lc, pb' = false ∧ zA ad st0.heap.size q.base) :
    va_S (zA ad s0.heap.size) s0.heap t.heap (locs ++ Lc) := by
  have up : ∀ q, zA ad H.size q → zA ad s0.heap.size q := fun q h => h.elim Or.inl (fun h => Or.inr (Nat.le_trans hS.1 h))
  rw [h0] at hL
  obtain ⟨f1, f2⟩ := hF
  rw [h0] at f1 f2
  refine ⟨Nat.le_trans hS.1 f1, fun q h1 h2 => ?_, fun q hq => ?_⟩
  · rw [f2 q (Nat.lt_of_lt_of_le h1 hS.1) (fun h => h2 (up q h))]
    exact hS.2.1 q h1 h2
  · rcases List.mem_append.mp hq with h | h
    · exact hS.2.2 q h
    · exact up _ (hL q h).2
theorem zTb.move {U : State} {locs : List Loc} (h : zTb s) (hP0 : zNst ad s) (hW : s.WarmedH U.vm) (hS : va_S (zA ad s.heap.size) s.heap U.heap locs) : zTb U := by
  have hh : ∀ (q : Nat) (cell : Cell), s.heap[q]? = some cell → cell.vm.isStatics = true → U.heap[q]? = some cell := by
    intro q cell hq hs
    have hl : q < s.heap.size := (Array.getElem?_eq_some_iff.mp hq).1
    rw [hS.2.1 q hl (fun hA => ?_)]
    · exact hq
    · rcases hA with ⟨j, hj, rfl⟩ | hA
      · exact hP0 _ cell hq hs j hj rfl
      · omega
  refine ⟨fun w hw => zok_warm (List.mem_filter.mp hw).2 hW (h.1 w hw), fun w hw => ?_, fun i j hi hj hij => (h.2.2 i j hi hj hij).moved hW.alike⟩
  have := h.2.1 w hw
  simp only [zWH, List.mem_cons, List.not_mem_nil, or_false] at hw
  rcases hw with rfl | rfl | rfl | rfl
  · exact zst_ref hW hh this
  · exact zst_ref hW hh this
  · exact zst_lays hW hh this
  · exact zst_lays hW hh this
theorem zhd_on {y : MethodName} {cc : ByteArray} {nL : Nat} {rt : Option FieldType} {hh : List (Nat × Nat × Nat × Nat)} : (zhd y cc nL rt hh).onTables = true := by
  unfold zhd
  split <;> rfl
theorem zhd_named {y : MethodName} {cc : ByteArray} {nL : Nat} {rt : Option FieldType} {hh : List (Nat × Nat × Nat × Nat)} {a : Array Value} {U : State} (h : (zhd y cc nL rt hh).before a U = true) : ∃ mk, U.methodNamed? y = some mk := by
  cases hh with
  | nil => exact Cond.code_named h
  | cons q r =>
    obtain ⟨m9, -, -, hn9, -⟩ := Cond.codeWith_spec h
    exact ⟨m9, hn9⟩
set_option maxHeartbeats 2000000 in
/-- from the callee's entry on -/
theorem ztail (X : zX (p, l, e, s, m, args, below, meth, c, D, cA, ad) cc own nL rt hh) {H : Heap} {locs : List Loc} {ls : Array Slot} (hP : va_P D zcl (zW cA ad μ) H) (hS : va_S (zA ad s.heap.size) s.heap H locs) (hb : b = true → locs = [] ∧ ∃ μ0, va_P D zcl (zW cA ad μ0) s.heap) (hl : zL ad nL L ls)
    (hC : zC l y cc' nL' rt' hh' fr' nb' lo' pb' as μ Q') (hhd : zhd y cc' nL' rt' hh' ∈ zWS) (hini : Cond.initialized y.cls ∈ zWS) (hR : fr' + 1 ≤ R.frames ∧ 8 + (nL' + 11) + lo' ≤ R.locals ∧ n + k0 + nb' ≤ R.cells ∧ 6 * n + s0 + 6 * nb' ≤ R.slots) (hst : (st.map zcat).sum ≤ 8)
    {T : State} (hT : T.heap = H) {vm₁ : Vm} (X₁ : Stand p l e R s m args below meth c (T.setVm vm₁) locs (n + k0) (6 * n + s0)) {ig : Instr} (hdg : decode cc pc = .ok (ig, 3)) {mk : MethodId} (hn : (T.setVm vm₁).methodNamed? y = some mk)
    (kr : ∀ v μ', Q' (.inl v) μ' → zU (p, l, e, s, m, args, below, meth, c, D, cA, ad) cc own nL rt hh R k0 s0 Fn (b && pb') (n + nb') μ' (pc + 3) L (v.toList ++ st))
    (kt : ∀ k μ', Q' (.inr k) μ' → zThr (p, l, e, s, m, args, below, meth, c, D, cA, ad) cc own nL rt hh R k0 s0 Fn (b && pb') (n + nb') μ' pc L st k) :
    ∃ t, Steps p.tables e below (doInvoke e ((T.setVm vm₁).setTop (F0 m pc ls (st.map (zcv ad)))) [] mk (as.map (zcv ad)).toArray).1 t ∧ Fn t := by
  obtain ⟨hx1, hb1, hml, hrt, hlk, hex, hown, hTb, hK, hJ, htr, hpl, hP0⟩ := id X
  have hU : zTb (T.setVm vm₁) := hTb.move (U := T.setVm vm₁) (locs := locs) hP0 X₁.warmed (by
    show va_S (zA ad s.heap.size) s.heap T.heap locs
    rw [hT]
    exact hS)
  obtain ⟨methY, cY, hmY, hcY, -, hlY, -⟩ := zhd_spec hn (hU.at (A := #[]) hhd zhd_on)
  have hKU : va_K D zcl (zty cA) (T.setVm vm₁) := va_K.moved X₁.warmed.alike hK
  obtain ⟨o, t, T', Lc, hq, e1, e2, hE, XT, sr, stt⟩ := zback (g := F0 m pc ls (st.map (zcv ad))) (a := (as.map (zcv ad)).toArray) (W := 8) (maxL := nL') (k := nb') (n := 6 * nb') (E := fun Lc => ∀ q ∈ Lc, pb' = false ∧ zA ad (T.setVm vm₁).heap.size q.base)
    (hC htr D cA ad) hR.1 hR.2.1 X₁ rfl (by rw [hml]; exact hl.2.1) (by rw [hb1]; exact hdg) (by
      have : ((st.map (zcv ad)).map fun v => v.category) = st.map zcat := by
        rw [List.map_map]
        apply List.map_congr_left
        intro v _
        exact zcat_cv ad v
      exact lv_room (by rw [this]; exact hst)) hn
    (atoms_intro fun w hw => by
      rw [List.mem_singleton.mp hw]
      exact hU.at hhd zhd_on) hmY hcY hlY (hU.at hini rfl) hR.2.2.1 hR.2.2.2
    ⟨rfl, hU.blind, va_K.moved (u := T.setVm vm₁) (U := (T.setVm vm₁).calling (F0 m pc ls (st.map (zcv ad))) mk (as.map (zcv ad)).toArray) (Vm.Alike.refl _) hKU, hJ, by
      show va_P D zcl (zW cA ad μ) T.heap
      rw [hT]
      exact hP⟩
    (fun o t hq => ⟨hq.1.1, hq.2⟩)
  obtain ⟨⟨hW, hF, po, μ', hout, hP', hQ'⟩, -⟩ := hq
  have hS' : va_S (zA ad s.heap.size) s.heap T'.heap (locs ++ Lc) := by
    rw [e1]
    exact zS_after (st0 := (T.setVm vm₁).calling (F0 m pc ls (st.map (zcv ad))) mk (as.map (zcv ad)).toArray) hS hT hF hE
  have hb' : (b && pb') = true → locs ++ Lc = [] ∧ ∃ μ0, va_P D zcl (zW cA ad μ0) s.heap := by
    intro h
    simp only [Bool.and_eq_true] at h
    refine ⟨?_, (hb h.1).2⟩
    rw [(hb h.1).1, List.nil_append]
    apply List.eq_nil_iff_forall_not_mem.mpr
    intro q hq
    have := (hE q hq).1
    rw [h.2] at this
    cases this
  have hPT : va_P D zcl (zW cA ad μ') T'.heap := by rw [e1]; exact hP'
  have XT' : Stand p l e R s m args below meth c T' (locs ++ Lc) (n + nb' + k0) (6 * (n + nb') + s0) := by
    have h1 : n + nb' + k0 = n + k0 + nb' := by omega
    have h2 : 6 * (n + nb') + s0 = 6 * n + s0 + 6 * nb' := by omega
    rw [h1, h2]
    exact XT
  rcases po with v | k
  · have ho : o = .returned (v.map (zcv ad)) := hout
    obtain ⟨t2, g1, g2⟩ := kr v μ' hQ' X T'.heap (locs ++ Lc) ls hPT hS' hb' hl T' rfl XT'
    refine ⟨t2, (sr _ ho).trans ?_, g2⟩
    have : (v.map (zcv ad)).toList ++ st.map (zcv ad) = (v.toList ++ st).map (zcv ad) := by
      cases v <;> rfl
    rw [← this] at g1
    exact g1
  · obtain ⟨x, ce, ho, hsz, hce, hcl, hvm⟩ := hout
    obtain ⟨t2, g1, g2⟩ := kt k μ' hQ' X T' (locs ++ Lc) x ce ls hPT hS' hb' hl XT' (by
      have : (T.setVm vm₁).heap.size ≤ x := hsz
      refine Nat.le_trans hS.1 ?_
      rw [← hT]
      exact this) (by rw [e1]; exact hce) (by
      have h9 : (T.setVm vm₁).vm.findClass (zEx k) = some ce.cls := hcl
      rw [← h9]
      exact (X₁.warmed.alike.findClass _ _).symm) hvm
    exact ⟨t2, (stt x ho).trans g1, g2⟩
end ZT
section ZH
variable {Γ : zG} {cc : ByteArray} {own : String} {nL : Nat} {rt : Option FieldType} {fr nb lo : Nat} {pb b : Bool} {Q : zO → zM → Prop} {n : Nat} {μ : zM} {pc : Nat} {L : List (Option zV)} {st : List zV}
/-- thrown on: no handler here -/
theorem zthru {k : Nat} (hpb : pb = true → b = true) (hnb : n ≤ nb) (hq : Q (.inr k) μ) : zThr Γ cc own nL rt [] (zRm fr nb lo) 0 0 (zFin Γ nb pb Q) b n μ pc L st k := by
  obtain ⟨p, l, e, s, m, args, below, meth, c, D, cA, ad⟩ := Γ
  intro X T' locs' x ce ls hP hS hb hl XT hx hce hcl hvm
  obtain ⟨hx1, hb1, hml, hrt, hlk, hex, hown, hTb, hK, hJ, htr, hpl, hP0⟩ := id X
  have hnone : c.exceptionTable.toList = [] := List.map_eq_nil_iff.mp hex
  obtain ⟨g1, g2, g3, g4, g5⟩ := XT.leaveThrown x (g := F0 m pc ls (st.map (zcv ad))) rfl rfl rfl (by rw [hnone]; intro q h; cases h) hlk
  refine ⟨_, g1, .threw x, g2, g3, ⟨g4, hS.F rfl, .inr k, μ, ⟨x, ce, rfl, hx, hce, hcl, hvm⟩, hP, hq⟩, locs', g5.mono (by omega) (by omega), fun q h => ⟨?_, hS.2.2 q h⟩⟩
  cases hp : pb with
  | false => rfl
  | true =>
    rw [(hb (hpb hp)).1] at h
    cases h
end ZH
/-! calls, as rules -/
def zCv (own : String) (ix : Nat) (y : MethodName) (cc' : ByteArray) (nL' : Nat) (rt' : Option FieldType) (C : String) (na : Nat) : Prop := (Cond.methodLink own ix y ∈ zWS ∨ ∃ host, Cond.methodLinkNest own ix y host ∈ zWS) ∧ Cond.instanceMethod y ∈ zWS ∧ Cond.selects C y y ∈ zWS ∧ Cond.code y cc' nL' rt' ∈ zWS ∧ Cond.initialized y.cls ∈ zWS ∧
  (y.cls ≠ "java/lang/invoke/MethodHandle" ∧ y.cls ≠ "java/lang/invoke/VarHandle") ∧ (parseMethodDescriptor y.desc).map (fun d => d.parameters.length) = some na
def zCs (own : String) (ix : Nat) (y : MethodName) (cc' : ByteArray) (nL' : Nat) (rt' : Option FieldType) (hh' : List (Nat × Nat × Nat × Nat)) (na : Nat) : Prop := (Cond.methodLink own ix y ∈ zWS ∨ ∃ host, Cond.methodLinkNest own ix y host ∈ zWS) ∧ Cond.static y ∈ zWS ∧ zhd y cc' nL' rt' hh' ∈ zWS ∧ Cond.initialized y.cls ∈ zWS ∧
  (y.cls ≠ "java/lang/invoke/MethodHandle" ∧ y.cls ≠ "java/lang/invoke/VarHandle") ∧ (parseMethodDescriptor y.desc).map (fun d => d.parameters.length) = some na
section ZC
variable {Γ : zG} {cc : ByteArray} {own : String} {nL : Nat} {rt : Option FieldType} {hh : List (Nat × Nat × Nat × Nat)} {R : Room} {k0 s0 : Nat} {Fn : State → Prop} {b : Bool} {n : Nat} {μ : zM} {pc : Nat} {L : List (Option zV)} {st stk : List zV}
variable {y : MethodName} {cc' : ByteArray} {nL' : Nat} {rt' : Option FieldType} {hh' : List (Nat × Nat × Nat × Nat)} {fr' nb' lo' : Nat} {pb' : Bool} {Q' : zO → zM → Prop}
set_option maxHeartbeats 2000000 in
theorem zU_callV0 {ix p0 ci : Nat} {C : String} {Tt : u_T} {N : Nat} (as : List zV) (hs : stk = as.reverse ++ zp p0 :: st) (d : decode cc pc = .ok (.invokevirtual ix, 3)) (w : zCv own ix y cc' nL' rt' C as.length) (hp : p0 < zN) (hk : zK p0 = .inr ci) (hc : zcl[ci]? = some (C, Tt, N))
    (hR : fr' + 1 ≤ R.frames ∧ 8 + (nL' + 11) + lo' ≤ R.locals ∧ n + k0 + nb' ≤ R.cells ∧ 6 * n + s0 + 6 * nb' ≤ R.slots) (hst : (st.map zcat).sum ≤ 8) (hC : ∀ l, zC l y cc' nL' rt' [] fr' nb' lo' pb' (zp p0 :: as) μ Q')
    (kr : ∀ v μ', Q' (.inl v) μ' → zU Γ cc own nL rt hh R k0 s0 Fn (b && pb') (n + nb') μ' (pc + 3) L (v.toList ++ st)) (kt : ∀ k μ', Q' (.inr k) μ' → zThr Γ cc own nL rt hh R k0 s0 Fn (b && pb') (n + nb') μ' pc L st k) :
    zU Γ cc own nL rt hh R k0 s0 Fn b n μ pc L stk := by
  obtain ⟨p, l, e, s, m, args, below, meth, c, D, cA, ad⟩ := Γ
  intro X H locs ls hP hS hb hl T hT St
  subst hs
  obtain ⟨hx1, hb1, hml, hrt, hlk, hex, hown, hTb, hK, hJ, htr, hpl, hP0⟩ := id X
  obtain ⟨w1, w2, w3, w4, w5, hy, w7⟩ := w
  have hw := hP p0 _ (zW_get (cA := cA) (ad := ad) (μ := μ) hp)
  rw [zce_obj hk] at hw
  obtain ⟨r, -, cellB, q1, q2, q3, -⟩ := hw
  have hcl : s.vm.findClass C = some cellB.cls := by rw [q2]; exact (hK.1 ci _ hc).2.1
  obtain ⟨mk, methM, hnamed, hmethM, hstM, habM⟩ := Cond.instanceMethod_spec (hTb.at (A := args) w2 rfl)
  obtain ⟨methM', cM, hmethM', -, -, -, -, -, -, hsigM⟩ := Cond.code_spec hnamed (hTb.at (A := args) w4 rfl)
  cases hmethM.symm.trans hmethM'
  obtain ⟨c2, r2, m2, g1, g2, g3, g4, kP, hkP, hkPi⟩ := Cond.selects_spec (hTb.at (A := args) w3 rfl)
  cases hcl.symm.trans g1
  cases (State.methodFound?_of_named hnamed hy).symm.trans g2
  cases hnamed.symm.trans g3
  have hselP : selectMethod e.platform s.vm cellB.cls mk = .method mk := by rw [Launch.admits_selectMethod St.admits]; exact g4
  have hlen : (as.map (zcv ad)).length = methM.sig.parameters.length := by
    rw [hsigM] at w7
    rw [List.length_map]
    exact (Option.some.inj w7).symm
  have hstk : (F0 m pc ls ((as.reverse ++ zp p0 :: st).map (zcv ad))).stack = (as.map (zcv ad)).reverse ++ .ref (ad p0) :: st.map (zcv ad) := by
    show (as.reverse ++ zp p0 :: st).map (zcv ad) = _
    rw [List.map_append, List.map_reverse]
    rfl
  have hobj : ∀ z, cellB.vm ≠ .statics z := fun z h => by rw [q3] at h; cases h
  obtain ⟨vm₁, X₁, hstep₁⟩ : ∃ vm', Stand p l e R s m args below meth c (T.setVm vm') locs (n + k0) (6 * n + s0) ∧
      ∀ target, (∀ acts, Steps p.tables e below (doInvoke e ((T.setVm vm').setTop { F0 m pc ls ((as.reverse ++ zp p0 :: st).map (zcv ad)) with stack := st.map (zcv ad) }) acts mk (Value.ref (ad p0) :: as.map (zcv ad)).toArray).1 target) → Steps p.tables e below (T.setTop (F0 m pc ls ((as.reverse ++ zp p0 :: st).map (zcv ad)))) target := by
    rcases w1 with w1 | ⟨host, w1⟩
    · exact St.invokevirtual hx1 hown (hTb.at w1 rfl) hnamed hmethM hstM hkP hkPi hy (a := ad p0) (cell := cellB) (by rw [hT]; exact q1) hobj hselP hmethM habM hkP hkPi (g := F0 m pc ls ((as.reverse ++ zp p0 :: st).map (zcv ad))) rfl (argsL := as.map (zcv ad)) (rest := st.map (zcv ad)) hlen hstk (by rw [hb1]; exact d)
    · exact St.invokevirtualNest hx1 hown (hTb.at w1 rfl) hnamed hmethM hstM hkP hkPi hy (a := ad p0) (cell := cellB) (by rw [hT]; exact q1) hobj hselP hmethM habM hkP hkPi (g := F0 m pc ls ((as.reverse ++ zp p0 :: st).map (zcv ad))) rfl (argsL := as.map (zcv ad)) (rest := st.map (zcv ad)) hlen hstk (by rw [hb1]; exact d)
  obtain ⟨t, g5, g6⟩ := ztail (y := y) (mk := mk) (as := zp p0 :: as) X hP hS hb hl (hC l) w4 w5 hR hst hT X₁ d (X₁.named hnamed) kr kt
  exact ⟨t, hstep₁ t (fun acts => by rw [doInvoke_state]; exact g5), g6⟩
set_option maxHeartbeats 2000000 in
theorem zU_callS0 {ix : Nat} (as : List zV) (hs : stk = as.reverse ++ st) (d : decode cc pc = .ok (.invokestatic ix, 3)) (w : zCs own ix y cc' nL' rt' hh' as.length)
    (hR : fr' + 1 ≤ R.frames ∧ 8 + (nL' + 11) + lo' ≤ R.locals ∧ n + k0 + nb' ≤ R.cells ∧ 6 * n + s0 + 6 * nb' ≤ R.slots) (hst : (st.map zcat).sum ≤ 8) (hC : ∀ l, zC l y cc' nL' rt' hh' fr' nb' lo' pb' as μ Q')
    (kr : ∀ v μ', Q' (.inl v) μ' → zU Γ cc own nL rt hh R k0 s0 Fn (b && pb') (n + nb') μ' (pc + 3) L (v.toList ++ st)) (kt : ∀ k μ', Q' (.inr k) μ' → zThr Γ cc own nL rt hh R k0 s0 Fn (b && pb') (n + nb') μ' pc L st k) :
    zU Γ cc own nL rt hh R k0 s0 Fn b n μ pc L stk := by
  obtain ⟨p, l, e, s, m, args, below, meth, c, D, cA, ad⟩ := Γ
  intro X H locs ls hP hS hb hl T hT St
  subst hs
  obtain ⟨hx1, hb1, hml, hrt, hlk, hex, hown, hTb, hK, hJ, htr, hpl, hP0⟩ := id X
  obtain ⟨w1, w2, w4, w5, hy, w7⟩ := w
  obtain ⟨mk, hnamed⟩ := zhd_named (hTb.at (A := args) w4 zhd_on)
  obtain ⟨methM, cM, hmethM, -, -, -, -, -, -, hsigM⟩ := zhd_spec hnamed (hTb.at (A := args) w4 zhd_on)
  have hstatic : methM.isStatic = true := Cond.static_spec hnamed hmethM (hTb.at (A := args) w2 rfl)
  obtain ⟨kP, hkP, -⟩ := className_of_methodNamed hnamed
  have hinitP : kP.init = .initialized := Cond.initialized_spec (findClass_of_methodNamed hnamed) hkP (hTb.at (A := args) w5 rfl)
  have hlen : (as.map (zcv ad)).length = methM.sig.parameters.length := by
    rw [hsigM] at w7
    rw [List.length_map]
    exact (Option.some.inj w7).symm
  have hstk : (F0 m pc ls ((as.reverse ++ st).map (zcv ad))).stack = (as.map (zcv ad)).reverse ++ st.map (zcv ad) := by
    show (as.reverse ++ st).map (zcv ad) = _
    rw [List.map_append, List.map_reverse]
  obtain ⟨vm₁, X₁, hstep₁⟩ : ∃ vm', Stand p l e R s m args below meth c (T.setVm vm') locs (n + k0) (6 * n + s0) ∧
      ∀ target, (∀ acts, Steps p.tables e below (doInvoke e ((T.setVm vm').setTop { F0 m pc ls ((as.reverse ++ st).map (zcv ad)) with stack := st.map (zcv ad) }) acts mk (as.map (zcv ad)).toArray).1 target) → Steps p.tables e below (T.setTop (F0 m pc ls ((as.reverse ++ st).map (zcv ad)))) target := by
    rcases w1 with w1 | ⟨host, w1⟩
    · exact St.invokestatic hx1 hown (hTb.at w1 rfl) hnamed hmethM hstatic hkP hinitP hy (g := F0 m pc ls ((as.reverse ++ st).map (zcv ad))) rfl (argsL := as.map (zcv ad)) (rest := st.map (zcv ad)) hlen hstk (by rw [hb1]; exact d)
    · exact St.invokestaticNest hx1 hown (hTb.at w1 rfl) hnamed hmethM hstatic hkP hinitP hy (g := F0 m pc ls ((as.reverse ++ st).map (zcv ad))) rfl (argsL := as.map (zcv ad)) (rest := st.map (zcv ad)) hlen hstk (by rw [hb1]; exact d)
  obtain ⟨t, g5, g6⟩ := ztail (y := y) (mk := mk) (as := as) X hP hS hb hl (hC l) w4 w5 hR hst hT X₁ d (X₁.named hnamed) kr kt
  exact ⟨t, hstep₁ t (fun acts => by rw [doInvoke_state]; exact g5), g6⟩
/-! what a contract says: an answer that is a number, or none; with or without a throw -/
def zRi (post : Int → zM → Prop) (o : zO) (μ' : zM) : Prop := ∃ r, o = .inl (some (zi r)) ∧ post r μ'
def zRv (post : zM → Prop) (o : zO) (μ' : zM) : Prop := o = .inl none ∧ post μ'
def zRit (post : Int → zM → Prop) (thr : Nat → zM → Prop) (o : zO) (μ' : zM) : Prop := (∃ r, o = .inl (some (zi r)) ∧ post r μ') ∨ ∃ k, o = .inr k ∧ thr k μ'
def zRvt (post : zM → Prop) (thr : Nat → zM → Prop) (o : zO) (μ' : zM) : Prop := (o = .inl none ∧ post μ') ∨ ∃ k, o = .inr k ∧ thr k μ'
theorem zU_callVi {ix p0 ci : Nat} {C : String} {Tt : u_T} {N : Nat} {post : Int → zM → Prop} (as : List zV) (d : decode cc pc = .ok (.invokevirtual ix, 3)) (w : zCv own ix y cc' nL' rt' C as.length) (hs : stk = as.reverse ++ zp p0 :: st) (hp : p0 < zN) (hk : zK p0 = .inr ci) (hc : zcl[ci]? = some (C, Tt, N)) (hR : fr' + 1 ≤ R.frames ∧ 8 + (nL' + 11) + lo' ≤ R.locals ∧ n + k0 + nb' ≤ R.cells ∧ 6 * n + s0 + 6 * nb' ≤ R.slots) (hst : (st.map zcat).sum ≤ 8) (hC : ∀ l, zC l y cc' nL' rt' [] fr' nb' lo' pb' (zp p0 :: as) μ (zRi post))
    (kr : ∀ r μ', post r μ' → zU Γ cc own nL rt hh R k0 s0 Fn (b && pb') (n + nb') μ' (pc + 3) L (zi r :: st)) : zU Γ cc own nL rt hh R k0 s0 Fn b n μ pc L stk :=
  zU_callV0 as hs d w hp hk hc hR hst hC (fun v μ' h => by obtain ⟨r, h1, h2⟩ := h; cases h1; exact kr r μ' h2) (fun k μ' h => by obtain ⟨r, h1, h2⟩ := h; cases h1)
theorem zU_callVv {ix p0 ci : Nat} {C : String} {Tt : u_T} {N : Nat} {post : zM → Prop} (as : List zV) (d : decode cc pc = .ok (.invokevirtual ix, 3)) (w : zCv own ix y cc' nL' rt' C as.length) (hs : stk = as.reverse ++ zp p0 :: st) (hp : p0 < zN) (hk : zK p0 = .inr ci) (hc : zcl[ci]? = some (C, Tt, N)) (hR : fr' + 1 ≤ R.frames ∧ 8 + (nL' + 11) + lo' ≤ R.locals ∧ n + k0 + nb' ≤ R.cells ∧ 6 * n + s0 + 6 * nb' ≤ R.slots) (hst : (st.map zcat).sum ≤ 8) (hC : ∀ l, zC l y cc' nL' rt' [] fr' nb' lo' pb' (zp p0 :: as) μ (zRv post))
    (kr : ∀ μ', post μ' → zU Γ cc own nL rt hh R k0 s0 Fn (b && pb') (n + nb') μ' (pc + 3) L st) : zU Γ cc own nL rt hh R k0 s0 Fn b n μ pc L stk :=
  zU_callV0 as hs d w hp hk hc hR hst hC (fun v μ' h => by obtain ⟨h1, h2⟩ := h; cases h1; exact kr μ' h2) (fun k μ' h => by obtain ⟨h1, h2⟩ := h; cases h1)
theorem zU_callVit {ix p0 ci : Nat} {C : String} {Tt : u_T} {N : Nat} {post : Int → zM → Prop} {thr : Nat → zM → Prop} (as : List zV) (d : decode cc pc = .ok (.invokevirtual ix, 3)) (w : zCv own ix y cc' nL' rt' C as.length) (hs : stk = as.reverse ++ zp p0 :: st) (hp : p0 < zN) (hk : zK p0 = .inr ci) (hc : zcl[ci]? = some (C, Tt, N)) (hR : fr' + 1 ≤ R.frames ∧ 8 + (nL' + 11) + lo' ≤ R.locals ∧ n + k0 + nb' ≤ R.cells ∧ 6 * n + s0 + 6 * nb' ≤ R.slots) (hst : (st.map zcat).sum ≤ 8) (hC : ∀ l, zC l y cc' nL' rt' [] fr' nb' lo' pb' (zp p0 :: as) μ (zRit post thr))
    (kr : ∀ r μ', post r μ' → zU Γ cc own nL rt hh R k0 s0 Fn (b && pb') (n + nb') μ' (pc + 3) L (zi r :: st)) (kt : ∀ k μ', thr k μ' → zThr Γ cc own nL rt hh R k0 s0 Fn (b && pb') (n + nb') μ' pc L st k) : zU Γ cc own nL rt hh R k0 s0 Fn b n μ pc L stk :=
  zU_callV0 as hs d w hp hk hc hR hst hC (fun v μ' h => by
    rcases h with ⟨r, h1, h2⟩ | ⟨k, h1, h2⟩
    · cases h1; exact kr r μ' h2
    · cases h1) (fun k μ' h => by
    rcases h with ⟨r, h1, h2⟩ | ⟨k, h1, h2⟩
    · cases h1
    · cases h1; exact kt _ μ' h2)
theorem zU_callVvt {ix p0 ci : Nat} {C : String} {Tt : u_T} {N : Nat} {post : zM → Prop} {thr : Nat → zM → Prop} (as : List zV) (d : decode cc pc = .ok (.invokevirtual ix, 3)) (w : zCv own ix y cc' nL' rt' C as.length) (hs : stk = as.reverse ++ zp p0 :: st) (hp : p0 < zN) (hk : zK p0 = .inr ci) (hc : zcl[ci]? = some (C, Tt, N)) (hR : fr' + 1 ≤ R.frames ∧ 8 + (nL' + 11) + lo' ≤ R.locals ∧ n + k0 + nb' ≤ R.cells ∧ 6 * n + s0 + 6 * nb' ≤ R.slots) (hst : (st.map zcat).sum ≤ 8) (hC : ∀ l, zC l y cc' nL' rt' [] fr' nb' lo' pb' (zp p0 :: as) μ (zRvt post thr))
    (kr : ∀ μ', post μ' → zU Γ cc own nL rt hh R k0 s0 Fn (b && pb') (n + nb') μ' (pc + 3) L st) (kt : ∀ k μ', thr k μ' → zThr Γ cc own nL rt hh R k0 s0 Fn (b && pb') (n + nb') μ' pc L st k) : zU Γ cc own nL rt hh R k0 s0 Fn b n μ pc L stk :=
  zU_callV0 as hs d w hp hk hc hR hst hC (fun v μ' h => by
    rcases h with ⟨h1, h2⟩ | ⟨k, h1, h2⟩
    · cases h1; exact kr μ' h2
    · cases h1) (fun k μ' h => by
    rcases h with ⟨h1, h2⟩ | ⟨k, h1, h2⟩
    · cases h1
    · cases h1; exact kt _ μ' h2)
theorem zU_callSi {ix : Nat} {post : Int → zM → Prop} (as : List zV) (d : decode cc pc = .ok (.invokestatic ix, 3)) (w : zCs own ix y cc' nL' rt' hh' as.length) (hs : stk = as.reverse ++ st) (hR : fr' + 1 ≤ R.frames ∧ 8 + (nL' + 11) + lo' ≤ R.locals ∧ n + k0 + nb' ≤ R.cells ∧ 6 * n + s0 + 6 * nb' ≤ R.slots) (hst : (st.map zcat).sum ≤ 8) (hC : ∀ l, zC l y cc' nL' rt' hh' fr' nb' lo' pb' as μ (zRi post))
    (kr : ∀ r μ', post r μ' → zU Γ cc own nL rt hh R k0 s0 Fn (b && pb') (n + nb') μ' (pc + 3) L (zi r :: st)) : zU Γ cc own nL rt hh R k0 s0 Fn b n μ pc L stk :=
  zU_callS0 as hs d w hR hst hC (fun v μ' h => by obtain ⟨r, h1, h2⟩ := h; cases h1; exact kr r μ' h2) (fun k μ' h => by obtain ⟨r, h1, h2⟩ := h; cases h1)
theorem zU_callSv {ix : Nat} {post : zM → Prop} (as : List zV) (d : decode cc pc = .ok (.invokestatic ix, 3)) (w : zCs own ix y cc' nL' rt' hh' as.length) (hs : stk = as.reverse ++ st) (hR : fr' + 1 ≤ R.frames ∧ 8 + (nL' + 11) + lo' ≤ R.locals ∧ n + k0 + nb' ≤ R.cells ∧ 6 * n + s0 + 6 * nb' ≤ R.slots) (hst : (st.map zcat).sum ≤ 8) (hC : ∀ l, zC l y cc' nL' rt' hh' fr' nb' lo' pb' as μ (zRv post))
    (kr : ∀ μ', post μ' → zU Γ cc own nL rt hh R k0 s0 Fn (b && pb') (n + nb') μ' (pc + 3) L st) : zU Γ cc own nL rt hh R k0 s0 Fn b n μ pc L stk :=
  zU_callS0 as hs d w hR hst hC (fun v μ' h => by obtain ⟨h1, h2⟩ := h; cases h1; exact kr μ' h2) (fun k μ' h => by obtain ⟨h1, h2⟩ := h; cases h1)
theorem zU_callSit {ix : Nat} {post : Int → zM → Prop} {thr : Nat → zM → Prop} (as : List zV) (d : decode cc pc = .ok (.invokestatic ix, 3)) (w : zCs own ix y cc' nL' rt' hh' as.length) (hs : stk = as.reverse ++ st) (hR : fr' + 1 ≤ R.frames ∧ 8 + (nL' + 11) + lo' ≤ R.locals ∧ n + k0 + nb' ≤ R.cells ∧ 6 * n + s0 + 6 * nb' ≤ R.slots) (hst : (st.map zcat).sum ≤ 8) (hC : ∀ l, zC l y cc' nL' rt' hh' fr' nb' lo' pb' as μ (zRit post thr))
    (kr : ∀ r μ', post r μ' → zU Γ cc own nL rt hh R k0 s0 Fn (b && pb') (n + nb') μ' (pc + 3) L (zi r :: st)) (kt : ∀ k μ', thr k μ' → zThr Γ cc own nL rt hh R k0 s0 Fn (b && pb') (n + nb') μ' pc L st k) : zU Γ cc own nL rt hh R k0 s0 Fn b n μ pc L stk :=
  zU_callS0 as hs d w hR hst hC (fun v μ' h => by
    rcases h with ⟨r, h1, h2⟩ | ⟨k, h1, h2⟩
    · cases h1; exact kr r μ' h2
    · cases h1) (fun k μ' h => by
    rcases h with ⟨r, h1, h2⟩ | ⟨k, h1, h2⟩
    · cases h1
    · cases h1; exact kt _ μ' h2)
theorem zU_callSvt {ix : Nat} {post : zM → Prop} {thr : Nat → zM → Prop} (as : List zV) (d : decode cc pc = .ok (.invokestatic ix, 3)) (w : zCs own ix y cc' nL' rt' hh' as.length) (hs : stk = as.reverse ++ st) (hR : fr' + 1 ≤ R.frames ∧ 8 + (nL' + 11) + lo' ≤ R.locals ∧ n + k0 + nb' ≤ R.cells ∧ 6 * n + s0 + 6 * nb' ≤ R.slots) (hst : (st.map zcat).sum ≤ 8) (hC : ∀ l, zC l y cc' nL' rt' hh' fr' nb' lo' pb' as μ (zRvt post thr))
    (kr : ∀ μ', post μ' → zU Γ cc own nL rt hh R k0 s0 Fn (b && pb') (n + nb') μ' (pc + 3) L st) (kt : ∀ k μ', thr k μ' → zThr Γ cc own nL rt hh R k0 s0 Fn (b && pb') (n + nb') μ' pc L st k) : zU Γ cc own nL rt hh R k0 s0 Fn b n μ pc L stk :=
  zU_callS0 as hs d w hR hst hC (fun v μ' h => by
    rcases h with ⟨h1, h2⟩ | ⟨k, h1, h2⟩
    · cases h1; exact kr μ' h2
    · cases h1) (fun k μ' h => by
    rcases h with ⟨h1, h2⟩ | ⟨k, h1, h2⟩
    · cases h1
    · cases h1; exact kt _ μ' h2)
end ZC
