/-! throws of a new exception, and catches -/
def zup2 : List String := ["java/lang/RuntimeException", "java/lang/Exception"]
def zTw (own : String) (ix ic k : Nat) : Prop := Cond.classLink own ix (zEx k) ∈ zWS ∧ Cond.instantiable (zEx k) 6 ∈ zWS ∧ Cond.initialized (zEx k) ∈ zWS ∧ (∀ a ∈ Bundle.ownAtoms0 own ic (zEx k) zup2, a ∈ zWS ∨ a ∈ zWH) ∧ Bundle.fit (zEx k) = true
theorem zWH_any {s : State} (h : zTb s) {A : Array Value} {w : Cond} (hw : w ∈ zWH) : w.before A s = true := by
  have := h.2.1 w hw
  simp only [zWH, List.mem_cons, List.not_mem_nil, or_false] at hw
  rcases hw with rfl | rfl | rfl | rfl <;> exact this
section ZQ
variable {Γ : zG} {cc : ByteArray} {own : String} {nL : Nat} {rt : Option FieldType} {fr nb lo : Nat} {pb b : Bool} {Q : zO → zM → Prop} {n : Nat} {μ : zM} {pc : Nat} {L : List (Option zV)} {st : List zV}
set_option maxHeartbeats 2000000 in
theorem zU_throw {ix ic : Nat} (k : Nat) (d0 : decode cc pc = .ok (.new ix, 3)) (d1 : decode cc (pc + 3) = .ok (.dup, 1)) (d2 : decode cc (pc + 4) = .ok (.invokespecial ic, 3)) (d3 : decode cc (pc + 7) = .ok (.athrow, 1)) (w : zTw own ix ic k)
    (hR : n + 1 ≤ nb ∧ 5 < fr ∧ (st.map zcat).sum + 81 ≤ lo) (hq : Q (.inr k) μ) : zU Γ cc own nL rt [] (zRm fr nb lo) 0 0 (zFin Γ nb pb Q) true n μ pc L st := by
  obtain ⟨p, l, e, s, m, args, below, meth, c, D, cA, ad⟩ := Γ
  intro X H locs ls hP hS hb hl T hT St
  obtain ⟨hx1, hb1, hml, hrt, hlk, hex, hown, hTb, hK, hJ, htr, hpl, hNs⟩ := id X
  obtain ⟨μ0, hP0⟩ := (hb rfl).2
  obtain ⟨w1, w2, w3, w4, w5⟩ := w
  have hlocs : locs = [] := (hb rfl).1
  subst hlocs
  obtain ⟨vm₁, cX, kX, hfX, hkX, -, -, X₁, st1⟩ := St.newCold hx1 (own := own) (C := zEx k) (index := ix) (n := 6) hown (hTb.at w1 rfl) (hTb.at w2 rfl) (hTb.at w3 rfl)
    (g := F0 m pc ls (st.map (zcv ad))) rfl (by rw [hb1]; exact d0) (by show n + 0 + 1 ≤ nb; omega) (by show 6 * n + 0 + 6 ≤ 6 * nb; omega)
  generalize hT2 : (T.setVm vm₁).pushCell { cls := cX, slots := kX.instanceTypes.map defaultValue, vm := .none } = T2 at X₁ st1
  have hcellA : T2.heap[T.heap.size]? = some (freshCell cX kX) := by rw [← hT2]; exact State.heap_pushCell_size _ _
  have hsz : s.heap.size ≤ T.heap.size := by rw [hT]; exact hS.1
  have hnone : c.exceptionTable.toList = [] := List.map_eq_nil_iff.mp hex
  have hcat : ((st.map (zcv ad)).map fun v => v.category) = st.map zcat := by
    rw [List.map_map]
    apply List.map_congr_left
    intro v _
    exact zcat_cv ad v
  obtain ⟨U, hsteps, hrun, hend, hW, hsame, ce, hce, K⟩ := X₁.ctorThrow0 hx1 hpl (own := own) (cls := zEx k) (names := zup2) (ic := ic) hown w5 (by decide +kernel)
    (fun y hy => (w4 y hy).elim (fun h => hTb.at h (zok_on (List.mem_filter.mp h).2)) (fun h => zWH_any hTb h)) (fun y hy => by cases hy) hfX hkX hcellA hsz
    (g := F0 m (pc + 4) ls (.ref T.heap.size :: .ref T.heap.size :: st.map (zcv ad))) rfl (by rw [hml]; exact hl.2.1) rfl rfl (rest := st.map (zcv ad)) rfl
    (by rw [hb1]; exact d2) (by rw [hb1]; exact d3) (by rw [hnone]; intro q h; cases h) (by show zup2.length + 3 < fr; have := hR.2.1; simp [zup2]; omega)
    (by
      have h1 : 2 * (F0 m (pc + 4) ls (.ref T.heap.size :: .ref T.heap.size :: st.map (zcv ad))).monitorRoom = 0 := rfl
      rw [h1]
      simp only [List.map_cons, List.sum_cons, hcat]
      have := hR.2.2
      show 0 + (1 + (st.map zcat).sum) + (13 * (2 + 1) + 41) ≤ lo
      omega) hlk
  have hU := zsame_nil hsame
  have hTs := zsame_nil St.same
  refine ⟨U, st1 _ ?_, .threw T.heap.size, hrun, hend, ⟨hW, ⟨hsame.2.1, fun q h _ => hU q h⟩, .inr k, μ, ⟨_, ce, rfl, hsz, hce, K.cls, K.vm⟩, ?_, hq⟩, [], hsame.mono (by omega) (by omega), fun q h => by cases h⟩
  · show Steps p.tables e below (T2.setTop (F0 m (pc + 3) ls (.ref T.heap.size :: st.map (zcv ad)))) _
    jvm_step X₁.here [X₁.here.top, hx1, hb1, d1, Value.category]
    exact hsteps
  · refine hP.kept (fun j q hj => ?_)
    obtain ⟨hj1, rfl⟩ := zW_inv hj
    have hlt : ad j < s.heap.size := (hP0 j _ (zW_get hj1)).lt
    rw [← hT]
    exact (hU _ hlt).trans (hTs _ hlt).symm
end ZQ
section ZK
variable {E : CtlPost} {e : Env} {d : Bool} {acts : List Action} {s : State} {f : JFrame} {a : Addr} {Q : Handler → Pre}
theorem zgo_cold {x : ExceptionTableEntry} {t : List ExceptionTableEntry} {c : ClassId} {cell : Cell} {vm' : Vm} (hx : covers x f.pc = true) (h0 : x.catchType ≠ 0)
    (hg : (Jvm.resolveClass f.method.cls x.catchType).Gives e.toSetting s.vm (.ok c) vm') (hsz : vm'.classes.size ≤ s.vm.classes.size) (hcell : s.heap[a]? = some cell) (hobj : ∀ k, cell.vm ≠ .statics k)
    (hk : ∃ k, vm'.classes[cell.cls]? = some k) (hc : ∃ k, vm'.classes[c]? = some k) :
    wp (findHandler.go f a (x :: t)) Q E e d acts s ↔
      if vm'.assignable cell.cls c = true then Q (.found x.handlerPc) d acts (s.setVm vm') else wp (findHandler.go f a t) Q E e d acts (s.setVm vm') := by
  simp only [covers] at hx
  obtain ⟨ha, ht⟩ := hg.op (op := VmOp.resolveClass f.method.cls x.catchType) rfl
  cases hfit : vm'.assignable cell.cls c <;>
    simp [findHandler.go, hx, h0, ha, ht, hsz, hcell, hobj, hk, hc, hfit, VmOp.dirties, VmOp.acts]
def zFinds (e : Env) (s : State) (f : JFrame) (a : Addr) (pc : Nat) (vm' : Vm) : Prop := ∀ (Q : Handler → Pre) (E : CtlPost) (d : Bool) (acts : List Action), wp (findHandler f a) Q E e d acts s ↔ Q (.found pc) d acts (s.setVm vm')
theorem zstep_catch {r : List Frame} {pc : Nat} {vm' : Vm} (hfind : zFinds e s f a pc vm') : (stepThrowing e s a (.java f :: r)).Is ((s.setVm vm').setFrames (.java { f with pc := pc, stack := [.ref a] } :: r)) [] := by
  simp only [stepThrowing, searchFrame, vmDo]
  generalize hr : Sem.go _ e false [] s = res
  obtain ⟨as, rfl, ha⟩ := Sem.eq_ok_of hr (a := Handler.found pc) (s' := s.setVm vm') (acts' := []) (by simp [hfind _ _ _ _])
  exact ⟨rfl, ha⟩
theorem zcaught {tb : Tables} {g : JFrame} {c : Code} {below : List Frame} {target : State} (h : At s g.method c below) {pc : Nat} {vm' : Vm} (hfind : zFinds e ((s.setTop g).pushFrame (.throwing a)) g a pc vm')
    (hrest : Steps tb e below ((s.setVm vm').setTop { g with pc := pc, stack := [.ref a] }) target) : Steps tb e below ((s.setTop g).pushFrame (.throwing a)) target := by
  obtain ⟨hgo, hw⟩ := h.throwing a
  refine Steps.head hgo hw ?_
  rw [stepThread_throwing (frames_entered h.top _), (zstep_catch (s := (s.setTop g).pushFrame (.throwing a)) hfind).1]
  obtain ⟨g₀, hg⟩ := Option.isSome_iff_exists.mp h.top
  obtain ⟨r, hr⟩ := State.topJava?_eq_some.mp hg
  have hr' : (s.setVm vm').frames = .java g₀ :: r := hr
  rw [State.setTop_of_frames _ hr'] at hrest
  have e1 : (((s.setTop g).pushFrame (.throwing a)).setVm vm').setFrames (.java { g with pc := pc, stack := [.ref a] } :: s.frames.tail) = (s.setVm vm').setFrames (.java { g with pc := pc, stack := [.ref a] } :: r) := by
    rw [State.pushFrame, State.setTop_of_frames _ hr, State.setFrames_setFrames, hr]
    have e2 : ∀ (F : List Frame), (s.setFrames F).setVm vm' = (s.setVm vm').setFrames F := fun _ => rfl
    rw [e2, State.setFrames_setFrames]
    rfl
  rw [e1]
  exact hrest
end ZK
section ZL
variable {Γ : zG} {cc : ByteArray} {own : String} {nL : Nat} {rt : Option FieldType} {R : Room} {k0 s0 : Nat} {Fn : State → Prop} {b : Bool} {n : Nat} {μ : zM} {pc : Nat} {L : List (Option zV)} {st : List zV}
/-- the search through a table of handlers whose ranges all hold pc: the first row whose class is the exception's -/
theorem zsearch {p : Program} {l : Launch} {e : Env} {s : State} {m : MethodId} {args : Array Value} {below : List Frame} {meth : Method} {c : Code} {f : JFrame} {x : Nat} {ce : Cell} {k : Nat} (hf : f.method = m) (hpl : e.platform.magicAccessors = ({} : Platform).magicAccessors)
    (hTb : zTb s) (hown : s.vm.findClass own = some m.cls) (hcl : s.vm.findClass (zEx k) = some ce.cls) (hvm : ce.vm = .none) (hk3 : k < 3) (hself : Cond.castable (zEx k) (zEx k) ∈ zWS) :
    ∀ (tb : List ExceptionTableEntry) (js : List Nat), js.length = tb.length → (∀ (i : Nat) (x : ExceptionTableEntry) (j : Nat), tb[i]? = some x → js[i]? = some j → covers x f.pc = true ∧ x.catchType ≠ 0 ∧ j < 3 ∧ Cond.classLink own x.catchType (zEx j) ∈ zWS) →
      ∀ (i : Nat) (h : ExceptionTableEntry), js.findIdx? (fun j => j == k) = some i → tb[i]? = some h →
      ∀ U : State, s.WarmedH U.vm → U.heap[x]? = some ce → ∃ vm', s.WarmedH vm' ∧ ∀ (Q : Handler → Pre) (E : CtlPost) (d : Bool) (acts : List Action), wp (findHandler.go f x tb) Q E e d acts U ↔ Q (.found h.handlerPc) d acts (U.setVm vm') := by
  intro tb
  induction tb with
  | nil =>
    intro js hlen _ i h _ hi
    simp at hi
  | cons y t ih =>
    intro js hlen hall i h hfi hi U hW hx
    cases js with
    | nil => simp at hlen
    | cons j js =>
      obtain ⟨q1, q2, q3, q4⟩ := hall 0 y j rfl rfl
      obtain ⟨cj, hfj, hlinks⟩ := Cond.classLink_spec (s := s) (args := #[]) hown (hTb.at q4 rfl) e.platform hpl
      obtain ⟨hg₁, hwarm₁, hready₁⟩ := State.classEntry (e := e) hW hlinks
      have hsz : (U.vm.noted m.cls y.catchType (.cls cj)).classes.size ≤ U.vm.classes.size := Nat.le_of_eq (Vm.size_noted _ _ _ _)
      generalize U.vm.noted m.cls y.catchType (.cls cj) = vm₁ at hg₁ hwarm₁ hready₁ hsz
      have hobj : ∀ z, ce.vm ≠ .statics z := fun z h => by rw [hvm] at h; cases h
      have hk1 : ∃ z, vm₁.classes[ce.cls]? = some z := Vm.classAt_of_findClass (by rw [hwarm₁.alike.findClass]; exact hcl)
      have hc1 : ∃ z, vm₁.classes[cj]? = some z := Vm.classAt_of_findClass (by rw [hwarm₁.alike.findClass]; exact hfj)
      have key : ∀ (Q : Handler → Pre) (E : CtlPost) (d : Bool) (acts : List Action), wp (findHandler.go f x (y :: t)) Q E e d acts U ↔
          if vm₁.assignable ce.cls cj = true then Q (.found y.handlerPc) d acts (U.setVm vm₁) else wp (findHandler.go f x t) Q E e d acts (U.setVm vm₁) := fun Q E d acts =>
        zgo_cold (vm' := vm₁) q1 q2 (by rw [hf]; exact hg₁) hsz hx hobj hk1 hc1
      by_cases hjk : j = k
      · subst hjk
        have hi0 : i = 0 := by
          rw [List.findIdx?_cons] at hfi
          simp at hfi
          exact hfi.symm
        subst hi0
        cases hi
        refine ⟨vm₁, hwarm₁, fun Q E d acts => ?_⟩
        obtain ⟨a1, a2, g1, g2, g3⟩ := Cond.castable_spec (hTb.at (A := #[]) hself rfl)
        cases g1.symm.trans hcl
        cases g2.symm.trans hcl
        cases hfj.symm.trans hcl
        rw [key, if_pos (by rw [hwarm₁.alike.assignable]; exact g3)]
      · rw [List.findIdx?_cons] at hfi
        simp only [beq_iff_eq, hjk, if_false] at hfi
        cases hr : js.findIdx? (fun j => j == k) with
        | none => rw [hr] at hfi; simp at hfi
        | some i' =>
          rw [hr] at hfi
          have hi' : i = i' + 1 := by simpa using hfi.symm
          subst hi'
          obtain ⟨vm', hw', hrest⟩ := ih js (by simpa using hlen) (fun i2 x2 j2 h1 h2 => hall (i2 + 1) x2 j2 (by simpa using h1) (by simpa using h2)) i' h hr (by simpa using hi) (U.setVm vm₁) hwarm₁ hx
          refine ⟨vm', hw', fun Q E d acts => ?_⟩
          obtain ⟨a1, a2, g1, g2, g3⟩ := hTb.2.2 k j hk3 q3 (fun h => hjk h.symm)
          cases g1.symm.trans hcl
          cases g2.symm.trans hfj
          rw [key, if_neg (by rw [hwarm₁.alike.assignable, g3]; decide), hrest]
          rfl
set_option maxHeartbeats 1000000 in
/-- caught here: by the row i of the table, whose handler begins with astore_iL -/
theorem zcatch {hh : List (Nat × Nat × Nat × Nat)} {k i hpc : Nat} {iL : Fin 4} (js : List Nat) (hk3 : k < 3) (hself : Cond.castable (zEx k) (zEx k) ∈ zWS) (hlen : js.length = hh.length)
    (hall : ∀ (i : Nat) (q : Nat × Nat × Nat × Nat) (j : Nat), hh[i]? = some q → js[i]? = some j → (q.1 ≤ pc ∧ pc < q.2.1) ∧ q.2.2.2 ≠ 0 ∧ j < 3 ∧ Cond.classLink own q.2.2.2 (zEx j) ∈ zWS)
    (hi : js.findIdx? (fun j => j == k) = some i) (hq : (hh[i]?).map (fun q => q.2.2.1) = some hpc) (d : decode cc hpc = .ok (.astore_n iL, 1)) (hiL : (iL : Nat) < nL)
    (kk : zU Γ cc own nL rt hh R k0 s0 Fn b n μ (hpc + 1) (L.set (iL : Nat) none) []) : zThr Γ cc own nL rt hh R k0 s0 Fn b n μ pc L st k := by
  obtain ⟨p, l, e, s, m, args, below, meth, c, D, cA, ad⟩ := Γ
  intro X T' locs' x ce ls hP hS hb hl XT hx hce hcl hvm
  obtain ⟨hx1, hb1, hml, hrt, hlk, hex, hown, hTb, hK, hJ, htr, hpl, hP0⟩ := id X
  have hmag : e.platform.magicAccessors = ({} : Platform).magicAccessors := by rw [XT.admits.platform]
  have hrow : ∀ (i : Nat) (y : ExceptionTableEntry), c.exceptionTable.toList[i]? = some y → hh[i]? = some (y.startPc, y.endPc, y.handlerPc, y.catchType) := by
    intro i y hy
    rw [← hex, List.getElem?_map, hy]
    rfl
  have hlt : i < c.exceptionTable.toList.length := by
    have h1 : i < js.length := (List.findIdx?_eq_some_iff_getElem.mp hi).1
    have h2 : hh.length = c.exceptionTable.toList.length := by rw [← hex, List.length_map]
    omega
  obtain ⟨y, hy⟩ : ∃ y, c.exceptionTable.toList[i]? = some y := ⟨_, List.getElem?_eq_getElem hlt⟩
  have hyp : y.handlerPc = hpc := by
    rw [hrow i y hy] at hq
    simpa using hq
  have hvmE : ((T'.setTop (F0 m pc ls (st.map (zcv ad)))).pushFrame (.throwing x)).vm = T'.vm := Stand.throwing_vm _ _ _
  have hheapE : ((T'.setTop (F0 m pc ls (st.map (zcv ad)))).pushFrame (.throwing x)).heap = T'.heap := Stand.throwing_heap _ _ _
  obtain ⟨vm', hw', hgo⟩ := zsearch (p := p) (l := l) (args := args) (below := below) (meth := meth) (c := c) (f := F0 m pc ls (st.map (zcv ad))) (x := x) (ce := ce) (k := k) rfl hmag hTb hown hcl hvm hk3 hself c.exceptionTable.toList js
    (by rw [hlen, ← hex, List.length_map])
    (fun i2 x2 j2 h1 h2 => by
      obtain ⟨⟨q1, q2⟩, q3, q4, q5⟩ := hall i2 _ j2 (hrow i2 x2 h1) h2
      exact ⟨by simp only [covers, Bool.and_eq_true, decide_eq_true_eq]; exact ⟨q1, q2⟩, q3, q4, q5⟩)
    i y hi hy ((T'.setTop (F0 m pc ls (st.map (zcv ad)))).pushFrame (.throwing x)) (by rw [hvmE]; exact XT.warmed) (by rw [hheapE]; exact hce)
  have hfind : zFinds e ((T'.setTop (F0 m pc ls (st.map (zcv ad)))).pushFrame (.throwing x)) (F0 m pc ls (st.map (zcv ad))) x hpc vm' := by
    intro Q E d acts
    rw [W.findHandler_eq (meth := meth) (code := c) (by rw [hvmE]; exact XT.method') XT.code, hgo, hyp]
  have w : W p l e R s m args below meth c T'.heap locs' (n + k0) (6 * n + s0) Fn (F0 m hpc ls [.ref x]) :=
    lv_astore_n hx1 hb1 d rfl (zL_has hl) hiL rfl (fun ls' h' => kk X T'.heap locs' ls' hP hS hb (zL_drop hl h'))
  obtain ⟨t, a1, b1⟩ := w (T'.setVm vm') rfl (XT.noted hw')
  exact ⟨t, zcaught XT.here hfind a1, b1⟩
set_option maxHeartbeats 1000000 in
/-- caught here: by the row i of the table, whose handler begins with astore iL -/
theorem zcatchw {hh : List (Nat × Nat × Nat × Nat)} {k i hpc : Nat} {iL : Nat} (js : List Nat) (hk3 : k < 3) (hself : Cond.castable (zEx k) (zEx k) ∈ zWS) (hlen : js.length = hh.length)
    (hall : ∀ (i : Nat) (q : Nat × Nat × Nat × Nat) (j : Nat), hh[i]? = some q → js[i]? = some j → (q.1 ≤ pc ∧ pc < q.2.1) ∧ q.2.2.2 ≠ 0 ∧ j < 3 ∧ Cond.classLink own q.2.2.2 (zEx j) ∈ zWS)
    (hi : js.findIdx? (fun j => j == k) = some i) (hq : (hh[i]?).map (fun q => q.2.2.1) = some hpc) (d : decode cc hpc = .ok (.astore iL, 2)) (hiL : iL < nL)
    (kk : zU Γ cc own nL rt hh R k0 s0 Fn b n μ (hpc + 2) (L.set iL none) []) : zThr Γ cc own nL rt hh R k0 s0 Fn b n μ pc L st k := by
  obtain ⟨p, l, e, s, m, args, below, meth, c, D, cA, ad⟩ := Γ
  intro X T' locs' x ce ls hP hS hb hl XT hx hce hcl hvm
  obtain ⟨hx1, hb1, hml, hrt, hlk, hex, hown, hTb, hK, hJ, htr, hpl, hP0⟩ := id X
  have hmag : e.platform.magicAccessors = ({} : Platform).magicAccessors := by rw [XT.admits.platform]
  have hrow : ∀ (i : Nat) (y : ExceptionTableEntry), c.exceptionTable.toList[i]? = some y → hh[i]? = some (y.startPc, y.endPc, y.handlerPc, y.catchType) := by
    intro i y hy
    rw [← hex, List.getElem?_map, hy]
    rfl
  have hlt : i < c.exceptionTable.toList.length := by
    have h1 : i < js.length := (List.findIdx?_eq_some_iff_getElem.mp hi).1
    have h2 : hh.length = c.exceptionTable.toList.length := by rw [← hex, List.length_map]
    omega
  obtain ⟨y, hy⟩ : ∃ y, c.exceptionTable.toList[i]? = some y := ⟨_, List.getElem?_eq_getElem hlt⟩
  have hyp : y.handlerPc = hpc := by
    rw [hrow i y hy] at hq
    simpa using hq
  have hvmE : ((T'.setTop (F0 m pc ls (st.map (zcv ad)))).pushFrame (.throwing x)).vm = T'.vm := Stand.throwing_vm _ _ _
  have hheapE : ((T'.setTop (F0 m pc ls (st.map (zcv ad)))).pushFrame (.throwing x)).heap = T'.heap := Stand.throwing_heap _ _ _
  obtain ⟨vm', hw', hgo⟩ := zsearch (p := p) (l := l) (args := args) (below := below) (meth := meth) (c := c) (f := F0 m pc ls (st.map (zcv ad))) (x := x) (ce := ce) (k := k) rfl hmag hTb hown hcl hvm hk3 hself c.exceptionTable.toList js
    (by rw [hlen, ← hex, List.length_map])
    (fun i2 x2 j2 h1 h2 => by
      obtain ⟨⟨q1, q2⟩, q3, q4, q5⟩ := hall i2 _ j2 (hrow i2 x2 h1) h2
      exact ⟨by simp only [covers, Bool.and_eq_true, decide_eq_true_eq]; exact ⟨q1, q2⟩, q3, q4, q5⟩)
    i y hi hy ((T'.setTop (F0 m pc ls (st.map (zcv ad)))).pushFrame (.throwing x)) (by rw [hvmE]; exact XT.warmed) (by rw [hheapE]; exact hce)
  have hfind : zFinds e ((T'.setTop (F0 m pc ls (st.map (zcv ad)))).pushFrame (.throwing x)) (F0 m pc ls (st.map (zcv ad))) x hpc vm' := by
    intro Q E d acts
    rw [W.findHandler_eq (meth := meth) (code := c) (by rw [hvmE]; exact XT.method') XT.code, hgo, hyp]
  have w : W p l e R s m args below meth c T'.heap locs' (n + k0) (6 * n + s0) Fn (F0 m hpc ls [.ref x]) :=
    lv_astore hx1 hb1 d (zL_has hl) hiL rfl (fun ls' h' => kk X T'.heap locs' ls' hP hS hb (zL_drop hl h'))
  obtain ⟨t, a1, b1⟩ := w (T'.setVm vm') rfl (XT.noted hw')
  exact ⟨t, zcaught XT.here hfind a1, b1⟩
end ZL
