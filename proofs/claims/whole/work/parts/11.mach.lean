/-! 02: the machine seen as a memory of numbers: places for addresses, a pure frame, one rule an instruction -/
abbrev zM : Type := Nat → Nat → Int
abbrev zV : Type := Int ⊕ (Nat ⊕ Int)
abbrev zO : Type := Option zV ⊕ Nat
abbrev zi (v : Int) : zV := Sum.inl v
abbrev zp (p : Nat) : zV := Sum.inr (Sum.inl p)
abbrev zl (v : Int) : zV := Sum.inr (Sum.inr v)
def zcv (ad : Nat → Nat) (v : zV) : Value := match v with
  | .inl v => .int (Int32.ofInt v)
  | .inr (.inl p) => .ref (ad p)
  | .inr (.inr v) => .long (Int64.ofInt v)
def zcat (v : zV) : Nat := match v with
  | .inr (.inr _) => 2
  | _ => 1
theorem zcat_cv (ad : Nat → Nat) (v : zV) : (zcv ad v).category = zcat v := by
  rcases v with v | p | v <;> rfl
def zup (μ : zM) (p i : Nat) (v : Int) : zM := fun q j => if q = p then (if j = i then v else μ p j) else μ q j
theorem zup_ne (μ : zM) {p q : Nat} (i : Nat) (v : Int) (h : q ≠ p) : zup μ p i v q = μ q := by
  funext j
  simp [zup, h]
theorem zup_self (μ : zM) (p i : Nat) (v : Int) : zup μ p i v p = fun j => if j = i then v else μ p j := by
  funext j
  simp [zup]
theorem zup_at (μ : zM) (p i q j : Nat) (v : Int) : zup μ p i v q j = if q = p ∧ j = i then v else μ q j := by
  by_cases h : q = p
  · subst h
    by_cases h2 : j = i <;> simp [zup, h2]
  · simp [zup, h]
/-! the world: zN places; zK: what lies at a place (an array: kind and length; an object: number of its class); zR: the place to which a reference leads -/
def zfv (ad : Nat → Nat) (p ci : Nat) (f : Nat → Int) (k : Nat) : Value := if zI ci k = true then .ref (ad (zR p k)) else .int (Int32.ofInt (f k))
def zce (cA : Nat → ClassId) (ad : Nat → Nat) (p : Nat) (f : Nat → Int) : va_E := match zK p with
  | .inl (0, n) => .inl (cA 0, n, .inl (fun j => Int32.ofInt (f j)))
  | .inl (1, n) => .inl (cA 1, n, .inl (fun j => Int32.ofInt (f j)))
  | .inl (2, n) => .inl (cA 2, n, .inr (.inl (fun j => Int64.ofInt (f j))))
  | .inl (_, n) => .inl (cA 3, n, .inr (.inr (.inr (.inr (fun j => some (ad (zR p j)))))))
  | .inr ci => .inr (ci, (List.range (zF ci)).map (zfv ad p ci f))
def zW (cA : Nat → ClassId) (ad : Nat → Nat) (μ : zM) : va_W := (List.range zN).map (fun p => (ad p, zce cA ad p (μ p)))
def zty (cA : Nat → ClassId) : List (ClassId × FieldType) := [(cA 0, .int), (cA 1, .boolean), (cA 2, .long), (cA 3, .object zAo)]
theorem zW_get {cA : Nat → ClassId} {ad : Nat → Nat} {μ : zM} {p : Nat} (hp : p < zN) : (zW cA ad μ)[p]? = some (ad p, zce cA ad p (μ p)) := by
  rw [zW, List.getElem?_map, List.getElem?_range hp]
  rfl
theorem zW_len {cA : Nat → ClassId} {ad : Nat → Nat} {μ : zM} : (zW cA ad μ).length = zN := by
  rw [zW, List.length_map, List.length_range]
theorem zW_inv {cA : Nat → ClassId} {ad : Nat → Nat} {μ : zM} {k : Nat} {q : Nat × va_E} (h : (zW cA ad μ)[k]? = some q) : k < zN ∧ q = (ad k, zce cA ad k (μ k)) := by
  have hk : k < zN := by
    have := (List.getElem?_eq_some_iff.mp h).1
    rwa [zW_len] at this
  rw [zW_get hk] at h
  exact ⟨hk, (Option.some.inj h).symm⟩
theorem zW_set {cA : Nat → ClassId} {ad : Nat → Nat} {μ μ' : zM} {p : Nat} (h : ∀ q, q ≠ p → μ' q = μ q) : (zW cA ad μ).set p (ad p, zce cA ad p (μ' p)) = zW cA ad μ' := by
  apply List.ext_getElem?
  intro k
  by_cases hN : k < zN
  · by_cases hk : k = p
    · subst hk
      rw [List.getElem?_set_self (by rw [zW_len]; exact hN), zW_get hN]
    · rw [List.getElem?_set_ne (Ne.symm hk), zW_get hN, zW_get hN, h k hk]
  · rw [List.getElem?_eq_none (by rw [List.length_set, zW_len]; omega), List.getElem?_eq_none (by rw [zW_len]; omega)]
def zJ (ad : Nat → Nat) : Prop := ∀ i j : Nat, i < zN → j < zN → ad i = ad j → i = j
def zA (ad : Nat → Nat) (sz : Nat) : Nat → Prop := fun q => (∃ p, p < zN ∧ ad p = q) ∨ sz ≤ q
theorem zD_of {cA : Nat → ClassId} {ad : Nat → Nat} {μ : zM} {sz : Nat} (hJ : zJ ad) : va_D (zA ad sz) (zW cA ad μ) := by
  refine ⟨fun i j p q hi hj hpq => ?_, fun k q hk => ?_⟩
  · obtain ⟨h1, rfl⟩ := zW_inv hi
    obtain ⟨h2, rfl⟩ := zW_inv hj
    exact hJ i j h1 h2 hpq
  · obtain ⟨h1, rfl⟩ := zW_inv hk
    exact Or.inl ⟨k, h1, rfl⟩
/-! the locals: known ones by their numbers -/
def zL (ad : Nat → Nat) (nL : Nat) (L : List (Option zV)) (ls : Array Slot) : Prop := L.length = nL ∧ ls.size = nL ∧ lv_wf ls ∧ ∀ (i : Nat) (v : zV), L[i]? = some (some v) → zcat v = 1 ∧ ls[i]? = some (.val (zcv ad v))
def zprs (ad : Nat → Nat) (L : List (Option zV)) : List (Nat × Value) := (List.range L.length).filterMap (fun i => match L[i]? with | some (some v) => some (i, zcv ad v) | _ => none)
theorem zprs_mem {ad : Nat → Nat} {L : List (Option zV)} {i : Nat} {v : zV} (h : L[i]? = some (some v)) : (i, zcv ad v) ∈ zprs ad L := by
  refine List.mem_filterMap.mpr ⟨i, List.mem_range.mpr (List.getElem?_eq_some_iff.mp h).1, ?_⟩
  rw [h]
theorem zprs_inv {ad : Nat → Nat} {L : List (Option zV)} {q : Nat × Value} (h : q ∈ zprs ad L) : ∃ v, L[q.1]? = some (some v) ∧ q.2 = zcv ad v := by
  obtain ⟨i, -, h2⟩ := List.mem_filterMap.mp h
  split at h2
  · next v hv =>
    cases h2
    exact ⟨v, hv, rfl⟩
  · cases h2
theorem zL_has {ad : Nat → Nat} {nL : Nat} {L : List (Option zV)} {ls : Array Slot} (h : zL ad nL L ls) : lv_has ls nL (zprs ad L) := by
  refine ⟨h.2.1, h.2.2.1, fun q hq => ?_⟩
  obtain ⟨v, h1, h2⟩ := zprs_inv hq
  rw [h2]
  exact (h.2.2.2 _ v h1).2
theorem zL_set {ad : Nat → Nat} {nL : Nat} {L : List (Option zV)} {ls ls' : Array Slot} {i : Nat} {v : zV} (h : zL ad nL L ls) (hv : zcat v = 1)
    (h' : lv_has ls' nL ((i, zcv ad v) :: (zprs ad L).filter (fun q => !(q.1 == i) && !(q.1 + 1 == i && q.2.category == 2)))) : zL ad nL (L.set i (some v)) ls' := by
  refine ⟨by rw [List.length_set]; exact h.1, h'.1, h'.2.1, fun j w hj => ?_⟩
  by_cases hij : j = i
  · subst hij
    by_cases hl : j < L.length
    · rw [List.getElem?_set_self hl] at hj
      cases hj
      exact ⟨hv, h'.2.2 _ List.mem_cons_self⟩
    · rw [List.getElem?_eq_none (by rw [List.length_set]; omega)] at hj
      cases hj
  · rw [List.getElem?_set_ne (Ne.symm hij)] at hj
    have hc := (h.2.2.2 j w hj).1
    refine ⟨hc, h'.2.2 (j, zcv ad w) (List.mem_cons_of_mem _ (List.mem_filter.mpr ⟨zprs_mem hj, ?_⟩))⟩
    have h1 : (zcv ad w).category = 1 := by rw [zcat_cv]; exact hc
    simp [hij, h1]
/-- a local of which no more is known -/
theorem zL_drop {ad : Nat → Nat} {nL : Nat} {L : List (Option zV)} {ls ls' : Array Slot} {i : Nat} {x : Value} (h : zL ad nL L ls)
    (h' : lv_has ls' nL ((i, x) :: (zprs ad L).filter (fun q => !(q.1 == i) && !(q.1 + 1 == i && q.2.category == 2)))) : zL ad nL (L.set i none) ls' := by
  refine ⟨by rw [List.length_set]; exact h.1, h'.1, h'.2.1, fun j w hj => ?_⟩
  by_cases hij : j = i
  · subst hij
    by_cases hl : j < L.length
    · rw [List.getElem?_set_self hl] at hj
      cases hj
    · rw [List.getElem?_eq_none (by rw [List.length_set]; omega)] at hj
      cases hj
  · rw [List.getElem?_set_ne (Ne.symm hij)] at hj
    have hc := (h.2.2.2 j w hj).1
    refine ⟨hc, h'.2.2 (j, zcv ad w) (List.mem_cons_of_mem _ (List.mem_filter.mpr ⟨zprs_mem hj, ?_⟩))⟩
    have h1 : (zcv ad w).category = 1 := by rw [zcat_cv]; exact hc
    simp [hij, h1]
theorem zL_forget {ad : Nat → Nat} {nL : Nat} {L L' : List (Option zV)} {ls : Array Slot} (h : zL ad nL L ls) (hl : L'.length = L.length) (hs : ∀ (i : Nat) (v : zV), L'[i]? = some (some v) → L[i]? = some (some v)) : zL ad nL L' ls :=
  ⟨by rw [hl]; exact h.1, h.2.1, h.2.2.1, fun i v hi => h.2.2.2 i v (hs i v hi)⟩
theorem zargs_mem {ad : Nat → Nat} : ∀ (as : List zV) (k : Nat), (∀ v ∈ as, zcat v = 1) → ∀ (i : Nat) (v : zV), as[i]? = some v → (k + i, zcv ad v) ∈ lv_args k (as.map (zcv ad)) := by
  intro as
  induction as with
  | nil => intro k _ i v h; simp at h
  | cons a t ih =>
    intro k hc i v h
    have ha : ¬ (zcv ad a).category = 2 := by
      rw [zcat_cv, hc a List.mem_cons_self]
      decide
    simp only [List.map_cons, lv_args, if_neg ha]
    cases i with
    | zero =>
      simp at h
      subst h
      exact List.mem_cons_self
    | succ i =>
      refine List.mem_cons_of_mem _ ?_
      have := ih (k + 1) (fun v hv => hc v (List.mem_cons_of_mem _ hv)) i v (by simpa using h)
      rwa [show k + 1 + i = k + (i + 1) by omega] at this
theorem zsl_len {ad : Nat → Nat} : ∀ (as : List zV), (∀ v ∈ as, zcat v = 1) → (lg_sl (as.map (zcv ad))).length = as.length := by
  intro as
  induction as with
  | nil => intro _; rfl
  | cons a t ih =>
    intro hc
    have ha : ¬ (zcv ad a).category = 2 := by
      rw [zcat_cv, hc a List.mem_cons_self]
      decide
    have := ih (fun v hv => hc v (List.mem_cons_of_mem _ hv))
    simp only [lg_sl, List.map_cons, List.flatMap_cons, if_neg ha, List.length_append, List.length_cons, List.length_nil] at this ⊢
    omega
theorem zL_entry {ad : Nat → Nat} {nL : Nat} {as : List zV} {L : List (Option zV)} (hc : ∀ v ∈ as, zcat v = 1) (hn : as.length ≤ nL) (hL : L = as.map some ++ List.replicate (nL - as.length) none) :
    zL ad nL L ((lg_sl (as.map (zcv ad)) ++ List.replicate (nL - (lg_sl (as.map (zcv ad))).length) Slot.unset).toArray) := by
  have hs := zsl_len (ad := ad) as hc
  have h := lv_entry (as.map (zcv ad)) (n := nL) (by rw [hs]; exact hn)
  subst hL
  refine ⟨by simp; omega, h.1, h.2.1, fun i v hi => ?_⟩
  have hi2 : as[i]? = some v := by
    by_cases hl : i < as.length
    · rw [List.getElem?_append_left (by simpa using hl), List.getElem?_map] at hi
      cases ha : as[i]? with
      | none => rw [ha] at hi; cases hi
      | some w => rw [ha] at hi; cases hi; rfl
    · rw [List.getElem?_append_right (by simpa using hl)] at hi
      have := List.eq_of_mem_replicate (List.mem_of_getElem? hi)
      cases this
  refine ⟨hc v (List.mem_of_getElem? hi2), ?_⟩
  have := h.2.2 (0 + i, zcv ad v) (zargs_mem as 0 hc i v hi2)
  simpa using this
/-! a method under way: the fixed things of its walk in one tuple -/
abbrev zG : Type := Program × Launch × Env × State × MethodId × Array Value × List Frame × Method × Code × va_G × (Nat → ClassId) × (Nat → Nat)
def zRm (fr nb lo : Nat) : Room := { frames := fr, cells := nb, slots := 6 * nb, locals := lo }
def zhd (y : MethodName) (cc : ByteArray) (nL : Nat) (rt : Option FieldType) (hh : List (Nat × Nat × Nat × Nat)) : Cond := match hh with
  | [] => .code y cc nL rt
  | _ => .codeWith y cc nL rt hh
theorem zhd_spec {y : MethodName} {cc : ByteArray} {nL : Nat} {rt : Option FieldType} {hh : List (Nat × Nat × Nat × Nat)} {a : Array Value} {U : State} {m : MethodId} (hn : U.methodNamed? y = some m) (h : (zhd y cc nL rt hh).before a U = true) :
    ∃ meth c, U.vm.method? m = some meth ∧ meth.code = some c ∧ c.code = cc ∧ c.maxLocals = nL ∧ meth.sig.returnType = rt ∧ meth.locks = false ∧
      c.exceptionTable.toList.map (fun h => (h.startPc, h.endPc, h.handlerPc, h.catchType)) = hh ∧ parseMethodDescriptor y.desc = some meth.sig := by
  cases hh with
  | nil =>
    obtain ⟨meth, c, h1, h2, h3, h4, h5, h6, h7, h8⟩ := Cond.code_spec hn h
    refine ⟨meth, c, h1, h2, h3, h4, h5, h6, ?_, h8⟩
    have h0 : c.exceptionTable.size = 0 := by simpa [Array.isEmpty] using h7
    have h1 : c.exceptionTable.toList = [] := List.eq_nil_of_length_eq_zero (by simpa using h0)
    rw [h1]
    rfl
  | cons q r =>
    obtain ⟨m9, meth, c, hn9, h1, h2, h3, h4, h7, h5, h6, h8⟩ := Cond.codeWith_spec h
    cases hn.symm.trans hn9
    exact ⟨meth, c, h1, h2, h3, h4, h5, h6, h7, h8⟩
def zOut (ad : Nat → Nat) (s t : State) (po : zO) (o : Outcome) : Prop := match po with
  | .inl v => o = .returned (v.map (zcv ad))
  | .inr k => ∃ (a : Nat) (ce : Cell), o = .threw a ∧ s.heap.size ≤ a ∧ t.heap[a]? = some ce ∧ s.vm.findClass (zEx k) = some ce.cls ∧ ce.vm = .none
/-- the end of an invocation that began at s -/
def zEnd (D : va_G) (cA : Nat → ClassId) (ad : Nat → Nat) (nb : Nat) (pb : Bool) (Q : zO → zM → Prop) (s : State) (o : Outcome) (t : State) : Prop :=
  (s.WarmedH t.vm ∧ va_F (zA ad s.heap.size) s t ∧ ∃ po μ', zOut ad s t po o ∧ va_P D zcl (zW cA ad μ') t.heap ∧ Q po μ') ∧
  ∃ Lc, s.sameButNew ({ t with vm := s.vm } : State) Lc nb (6 * nb) ∧ ∀ q ∈ Lc, pb = false ∧ zA ad s.heap.size q.base
def zFin (Γ : zG) (nb : Nat) (pb : Bool) (Q : zO → zM → Prop) : State → Prop := match Γ with
  | (_, _, _, s, _, _, below, _, _, D, cA, ad) => fun t => ∃ o, t.status = .running ∧ Ended t below o ∧ zEnd D cA ad nb pb Q s o t
/-- no place is a cell of statics -/
def zNst (ad : Nat → Nat) (s : State) : Prop := ∀ (q : Nat) (cell : Cell), s.heap[q]? = some cell → cell.vm.isStatics = true → ∀ j, j < zN → ad j ≠ q
theorem zW_vm {D : va_G} {cA : Nat → ClassId} {ad : Nat → Nat} {μ : zM} {H : Heap} (hP : va_P D zcl (zW cA ad μ) H) {q : Nat} (hp : q < zN) : ∃ cell, H[ad q]? = some cell ∧ cell.vm = .none := by
  have h := hP q _ (zW_get (cA := cA) (ad := ad) (μ := μ) hp)
  cases hk : zK q with
  | inl x =>
    obtain ⟨t, n⟩ := x
    match t with
    | 0 => simp only [zce, hk] at h; exact ⟨_, h, rfl⟩
    | 1 => simp only [zce, hk] at h; exact ⟨_, h, rfl⟩
    | 2 => simp only [zce, hk] at h; exact ⟨_, h, rfl⟩
    | t + 3 => simp only [zce, hk] at h; exact ⟨_, h, rfl⟩
  | inr ci =>
    simp only [zce, hk] at h
    obtain ⟨r, -, cell, h1, -, h3, -⟩ := h
    exact ⟨cell, h1, h3⟩
theorem zNst_of {D : va_G} {cA : Nat → ClassId} {ad : Nat → Nat} {μ : zM} {s : State} (h : va_P D zcl (zW cA ad μ) s.heap) : zNst ad s := by
  intro q cell hq hs j hj he
  obtain ⟨cell', g1, g2⟩ := zW_vm h hj
  rw [he] at g1
  cases hq.symm.trans g1
  rw [g2] at hs
  cases hs
def zX (Γ : zG) (cc : ByteArray) (own : String) (nL : Nat) (rt : Option FieldType) (hh : List (Nat × Nat × Nat × Nat)) : Prop := match Γ with
  | (p, l, e, s, m, _, _, meth, c, D, cA, ad) =>
    p.tables.exec = Jvm.exec ∧ c.code = cc ∧ c.maxLocals = nL ∧ meth.sig.returnType = rt ∧ meth.locks = false ∧
    c.exceptionTable.toList.map (fun h => (h.startPc, h.endPc, h.handlerPc, h.catchType)) = hh ∧
    s.vm.findClass own = some m.cls ∧ zTb s ∧ va_K D zcl (zty cA) s ∧ zJ ad ∧ l.stackTraces = false ∧ e.platform.stackTraces = false ∧ zNst ad s
/-- the machine, at pc with memory μ, locals L and operand stack st, comes to an end with Fn; n throws' worth of cells have been used -/
def zU (Γ : zG) (cc : ByteArray) (own : String) (nL : Nat) (rt : Option FieldType) (hh : List (Nat × Nat × Nat × Nat)) (R : Room) (k0 s0 : Nat) (Fn : State → Prop) (b : Bool) (n : Nat) (μ : zM) (pc : Nat) (L : List (Option zV)) (st : List zV) : Prop :=
  zX Γ cc own nL rt hh → match Γ with
  | (p, l, e, s, m, args, below, meth, c, D, cA, ad) =>
    ∀ (H : Heap) (locs : List Loc) (ls : Array Slot), va_P D zcl (zW cA ad μ) H → va_S (zA ad s.heap.size) s.heap H locs → (b = true → locs = [] ∧ ∃ μ0, va_P D zcl (zW cA ad μ0) s.heap) → zL ad nL L ls →
      W p l e R s m args below meth c H locs (n + k0) (6 * n + s0) Fn (F0 m pc ls (st.map (zcv ad)))
/-- the machine, at pc, where an exception of the kind k has just been thrown -/
def zThr (Γ : zG) (cc : ByteArray) (own : String) (nL : Nat) (rt : Option FieldType) (hh : List (Nat × Nat × Nat × Nat)) (R : Room) (k0 s0 : Nat) (Fn : State → Prop) (b : Bool) (n : Nat) (μ : zM) (pc : Nat) (L : List (Option zV)) (st : List zV) (k : Nat) : Prop :=
  zX Γ cc own nL rt hh → match Γ with
  | (p, l, e, s, m, args, below, meth, c, D, cA, ad) =>
    ∀ (T' : State) (locs' : List Loc) (x : Nat) (ce : Cell) (ls : Array Slot), va_P D zcl (zW cA ad μ) T'.heap → va_S (zA ad s.heap.size) s.heap T'.heap locs' → (b = true → locs' = [] ∧ ∃ μ0, va_P D zcl (zW cA ad μ0) s.heap) → zL ad nL L ls → Stand p l e R s m args below meth c T' locs' (n + k0) (6 * n + s0) →
      s.heap.size ≤ x → T'.heap[x]? = some ce → s.vm.findClass (zEx k) = some ce.cls → ce.vm = .none → ∃ t, Steps p.tables e below ((T'.setTop (F0 m pc ls (st.map (zcv ad)))).pushFrame (.throwing x)) t ∧ Fn t
/-- a method's contract: with these arguments, from any state that holds the memory μ, it ends, and Q of its outcome and its memory -/
def zC (l : Launch) (y : MethodName) (cc : ByteArray) (nL : Nat) (rt : Option FieldType) (hh : List (Nat × Nat × Nat × Nat)) (fr nb lo : Nat) (pb : Bool) (as : List zV) (μ : zM) (Q : zO → zM → Prop) : Prop :=
  l.stackTraces = false → ∀ (D : va_G) (cA : Nat → ClassId) (ad : Nat → Nat), MetFree l y (headSpec [zhd y cc nL rt hh] (zRm fr nb lo))
    (fun v U => v = (as.map (zcv ad)).toArray ∧ zTb U ∧ va_K D zcl (zty cA) U ∧ zJ ad ∧ va_P D zcl (zW cA ad μ) U.heap)
    (fun _ _ _ _ _ => True) (fun _ U o t => zEnd D cA ad nb pb Q U o t)
section ZA
variable {p : Program} {l : Launch} {e : Env} {R : Room} {s : State} {m : MethodId} {args : Array Value} {below : List Frame} {meth : Method} {c : Code} {H : Heap} {locs : List Loc} {cells slots : Nat} {Q Q' : State → Prop} {g : JFrame}
theorem zmono (h : ∀ t, Q t → Q' t) (k : W p l e R s m args below meth c H locs cells slots Q g) : W p l e R s m args below meth c H locs cells slots Q' g := by
  intro T hT X
  obtain ⟨t, a, b⟩ := k T hT X
  exact ⟨t, a, h t b⟩
end ZA
set_option maxHeartbeats 1000000 in
theorem zC.of {l : Launch} {y : MethodName} {cc : ByteArray} {own : String} {nL : Nat} {rt : Option FieldType} {hh : List (Nat × Nat × Nat × Nat)} {fr nb lo : Nat} {pb : Bool} {as : List zV} {μ : zM} {Q : zO → zM → Prop} {L : List (Option zV)}
    (hy : plainName y.cls = true) (ho : y.cls = own) (hc : ∀ v ∈ as, zcat v = 1) (hn : as.length ≤ nL) (hL : L = as.map some ++ List.replicate (nL - as.length) none)
    (body : ∀ Γ : zG, zU Γ cc own nL rt hh (zRm fr nb lo) 0 0 (zFin Γ nb pb Q) true 0 μ 0 L []) : zC l y cc nL rt hh fr nb lo pb as μ Q := by
  intro htr D cA ad
  refine MetFree.of_bodyS (code := cc) (maxLocals := nL) (ret := rt) hy ?_ ?_
  · intro args s m h hn
    obtain ⟨meth, c, h1, h2, h3, h4, h5, h6, -, -⟩ := zhd_spec hn (atoms_spec (ws := [zhd y cc nL rt hh]) h _ List.mem_cons_self)
    exact ⟨meth, c, h1, h2, h3, h4, h5, h6⟩
  · intro p e s m args below meth c s₁ B hml hP _
    obtain ⟨rfl, hT, hK, hJ, hW⟩ := hP
    have hh0 : s₁.heap = s.heap := by rw [B.state]; rfl
    have X0 := Stand.of_body B
    obtain ⟨meth', c', g1, g2, -, -, -, -, g7, -⟩ := zhd_spec B.named (atoms_spec (ws := [zhd y cc nL rt hh]) B.pre _ List.mem_cons_self)
    cases B.method.symm.trans g1
    cases X0.code.symm.trans g2
    have he : e.platform.stackTraces = false := by rw [B.admits.platform]; exact htr
    have hown : s.vm.findClass own = some m.cls := by rw [← ho]; exact findClass_of_methodNamed B.named
    have k := body (p, l, e, s, m, (as.map (zcv ad)).toArray, below, meth, c, D, cA, ad) ⟨B.exec, B.bytes, hml, B.returns, B.notSynchronized, g7, hown, hT, hK, hJ, htr, he, zNst_of hW⟩
      s.heap [] _ hW va_S.rf (fun _ => ⟨rfl, μ, hW⟩) (zL_entry hc hn hL)
    have k2 : W p l e (zRm fr nb lo) s m (as.map (zcv ad)).toArray below meth c s.heap [] 0 0 (zFin (p, l, e, s, m, (as.map (zcv ad)).toArray, below, meth, c, D, cA, ad) nb pb Q) (entryFrame m (as.map (zcv ad)).toArray nL) := by
      rw [lg_entry_eq]
      exact k
    obtain ⟨t, a1, o, b1, b2, b3⟩ := k2 s₁ hh0 X0
    exact ⟨t, o, a1, b1, b2, b3⟩
section ZR
variable {Γ : zG} {cc : ByteArray} {own : String} {nL : Nat} {rt : Option FieldType} {hh : List (Nat × Nat × Nat × Nat)} {R : Room} {k0 s0 : Nat} {Fn : State → Prop} {b : Bool} {n : Nat} {μ : zM} {pc : Nat} {L : List (Option zV)} {st : List zV}
theorem zU.eqL {L' : List (Option zV)} (h : L = L') (kk : zU Γ cc own nL rt hh R k0 s0 Fn b n μ pc L' st) : zU Γ cc own nL rt hh R k0 s0 Fn b n μ pc L st := h ▸ kk
theorem zU.eqS {st' : List zV} (h : st = st') (kk : zU Γ cc own nL rt hh R k0 s0 Fn b n μ pc L st') : zU Γ cc own nL rt hh R k0 s0 Fn b n μ pc L st := h ▸ kk
theorem zU.eqM {μ' : zM} (h : μ = μ') (kk : zU Γ cc own nL rt hh R k0 s0 Fn b n μ' pc L st) : zU Γ cc own nL rt hh R k0 s0 Fn b n μ pc L st := h ▸ kk
theorem zU.loose (kk : zU Γ cc own nL rt hh R k0 s0 Fn false n μ pc L st) : zU Γ cc own nL rt hh R k0 s0 Fn b n μ pc L st := by
  obtain ⟨p, l, e, s, m, args, below, meth, c, D, cA, ad⟩ := Γ
  intro X H locs ls hP hS hb hl
  exact kk X H locs ls hP hS (fun h => by cases h) hl
theorem zU.forget {L' : List (Option zV)} (hl' : L'.length = L.length) (hs : ∀ (i : Nat) (v : zV), L'[i]? = some (some v) → L[i]? = some (some v)) (kk : zU Γ cc own nL rt hh R k0 s0 Fn b n μ pc L' st) : zU Γ cc own nL rt hh R k0 s0 Fn b n μ pc L st := by
  obtain ⟨p, l, e, s, m, args, below, meth, c, D, cA, ad⟩ := Γ
  intro X H locs ls hP hS hb hl
  exact kk X H locs ls hP hS hb (zL_forget hl hl' hs)
theorem zU.widen {n' : Nat} (h : n ≤ n') (kk : zU Γ cc own nL rt hh R k0 s0 Fn b n' μ pc L st) : zU Γ cc own nL rt hh R k0 s0 Fn b n μ pc L st := by
  obtain ⟨p, l, e, s, m, args, below, meth, c, D, cA, ad⟩ := Γ
  intro X H locs ls hP hS hb hl
  exact W.widen (by omega) (by omega) (kk X H locs ls hP hS hb hl)
theorem zU_iconst {k : Int} (d : decode cc pc = .ok (.iconst k, 1)) (kk : zU Γ cc own nL rt hh R k0 s0 Fn b n μ (pc + 1) L (zi k :: st)) : zU Γ cc own nL rt hh R k0 s0 Fn b n μ pc L st := by
  obtain ⟨p, l, e, s, m, args, below, meth, c, D, cA, ad⟩ := Γ
  intro X H locs ls hP hS hb hl
  exact lv_iconst X.1 X.2.1 d rfl (kk X H locs ls hP hS hb hl)
theorem zU_bipush {k : Int} (d : decode cc pc = .ok (.bipush k, 2)) (hv : (Int8.ofInt k).toInt32 = Int32.ofInt k) (kk : zU Γ cc own nL rt hh R k0 s0 Fn b n μ (pc + 2) L (zi k :: st)) : zU Γ cc own nL rt hh R k0 s0 Fn b n μ pc L st := by
  obtain ⟨p, l, e, s, m, args, below, meth, c, D, cA, ad⟩ := Γ
  intro X H locs ls hP hS hb hl
  exact lv_bipush X.1 X.2.1 d hv (kk X H locs ls hP hS hb hl)
theorem zU_sipush {k : Int} (d : decode cc pc = .ok (.sipush k, 3)) (hv : (Int16.ofInt k).toInt32 = Int32.ofInt k) (kk : zU Γ cc own nL rt hh R k0 s0 Fn b n μ (pc + 3) L (zi k :: st)) : zU Γ cc own nL rt hh R k0 s0 Fn b n μ pc L st := by
  obtain ⟨p, l, e, s, m, args, below, meth, c, D, cA, ad⟩ := Γ
  intro X H locs ls hP hS hb hl
  exact lv_sipush X.1 X.2.1 d hv (kk X H locs ls hP hS hb hl)
theorem zU_lconst {k : Fin 2} {v : Int} (d : decode cc pc = .ok (.lconst k, 1)) (hv : Int64.ofNat (k : Nat) = Int64.ofInt v) (kk : zU Γ cc own nL rt hh R k0 s0 Fn b n μ (pc + 1) L (zl v :: st)) : zU Γ cc own nL rt hh R k0 s0 Fn b n μ pc L st := by
  obtain ⟨p, l, e, s, m, args, below, meth, c, D, cA, ad⟩ := Γ
  intro X H locs ls hP hS hb hl
  exact lv_lconst X.1 X.2.1 d hv (kk X H locs ls hP hS hb hl)
theorem zU_iload_n {k : Fin 4} {v : Int} (d : decode cc pc = .ok (.iload_n k, 1)) (h : L[(k : Nat)]? = some (some (zi v))) (kk : zU Γ cc own nL rt hh R k0 s0 Fn b n μ (pc + 1) L (zi v :: st)) : zU Γ cc own nL rt hh R k0 s0 Fn b n μ pc L st := by
  obtain ⟨p, l, e, s, m, args, below, meth, c, D, cA, ad⟩ := Γ
  intro X H locs ls hP hS hb hl
  exact lv_iload_n X.1 X.2.1 d rfl (hl.2.2.2 _ _ h).2 (kk X H locs ls hP hS hb hl)
theorem zU_iload {k : Nat} {v : Int} (d : decode cc pc = .ok (.iload k, 2)) (h : L[k]? = some (some (zi v))) (kk : zU Γ cc own nL rt hh R k0 s0 Fn b n μ (pc + 2) L (zi v :: st)) : zU Γ cc own nL rt hh R k0 s0 Fn b n μ pc L st := by
  obtain ⟨p, l, e, s, m, args, below, meth, c, D, cA, ad⟩ := Γ
  intro X H locs ls hP hS hb hl
  exact lv_iload X.1 X.2.1 d (hl.2.2.2 _ _ h).2 (kk X H locs ls hP hS hb hl)
theorem zU_aload_n {k : Fin 4} {v : Nat} (d : decode cc pc = .ok (.aload_n k, 1)) (h : L[(k : Nat)]? = some (some (zp v))) (kk : zU Γ cc own nL rt hh R k0 s0 Fn b n μ (pc + 1) L (zp v :: st)) : zU Γ cc own nL rt hh R k0 s0 Fn b n μ pc L st := by
  obtain ⟨p, l, e, s, m, args, below, meth, c, D, cA, ad⟩ := Γ
  intro X H locs ls hP hS hb hl
  exact lv_aload_n X.1 X.2.1 d rfl (hl.2.2.2 _ _ h).2 (kk X H locs ls hP hS hb hl)
theorem zU_aload {k : Nat} {v : Nat} (d : decode cc pc = .ok (.aload k, 2)) (h : L[k]? = some (some (zp v))) (kk : zU Γ cc own nL rt hh R k0 s0 Fn b n μ (pc + 2) L (zp v :: st)) : zU Γ cc own nL rt hh R k0 s0 Fn b n μ pc L st := by
  obtain ⟨p, l, e, s, m, args, below, meth, c, D, cA, ad⟩ := Γ
  intro X H locs ls hP hS hb hl
  exact lv_aload X.1 X.2.1 d (hl.2.2.2 _ _ h).2 (kk X H locs ls hP hS hb hl)
theorem zU_istore_n {k : Fin 4} {v : Int} (d : decode cc pc = .ok (.istore_n k, 1)) (h : (k : Nat) < nL) (kk : zU Γ cc own nL rt hh R k0 s0 Fn b n μ (pc + 1) (L.set (k : Nat) (some (zi v))) st) : zU Γ cc own nL rt hh R k0 s0 Fn b n μ pc L (zi v :: st) := by
  obtain ⟨p, l, e, s, m, args, below, meth, c, D, cA, ad⟩ := Γ
  intro X H locs ls hP hS hb hl
  exact lv_istore_n X.1 X.2.1 d rfl (zL_has hl) h rfl (fun ls' h' => kk X H locs ls' hP hS hb (zL_set (v := zi v) hl rfl h'))
theorem zU_istore {k : Nat} {v : Int} (d : decode cc pc = .ok (.istore k, 2)) (h : k < nL) (kk : zU Γ cc own nL rt hh R k0 s0 Fn b n μ (pc + 2) (L.set k (some (zi v))) st) : zU Γ cc own nL rt hh R k0 s0 Fn b n μ pc L (zi v :: st) := by
  obtain ⟨p, l, e, s, m, args, below, meth, c, D, cA, ad⟩ := Γ
  intro X H locs ls hP hS hb hl
  exact lv_istore X.1 X.2.1 d (zL_has hl) h rfl (fun ls' h' => kk X H locs ls' hP hS hb (zL_set (v := zi v) hl rfl h'))
theorem zU_astore_n {k : Fin 4} {v : Nat} (d : decode cc pc = .ok (.astore_n k, 1)) (h : (k : Nat) < nL) (kk : zU Γ cc own nL rt hh R k0 s0 Fn b n μ (pc + 1) (L.set (k : Nat) (some (zp v))) st) : zU Γ cc own nL rt hh R k0 s0 Fn b n μ pc L (zp v :: st) := by
  obtain ⟨p, l, e, s, m, args, below, meth, c, D, cA, ad⟩ := Γ
  intro X H locs ls hP hS hb hl
  exact lv_astore_n X.1 X.2.1 d rfl (zL_has hl) h rfl (fun ls' h' => kk X H locs ls' hP hS hb (zL_set (v := zp v) hl rfl h'))
theorem zU_astore {k : Nat} {v : Nat} (d : decode cc pc = .ok (.astore k, 2)) (h : k < nL) (kk : zU Γ cc own nL rt hh R k0 s0 Fn b n μ (pc + 2) (L.set k (some (zp v))) st) : zU Γ cc own nL rt hh R k0 s0 Fn b n μ pc L (zp v :: st) := by
  obtain ⟨p, l, e, s, m, args, below, meth, c, D, cA, ad⟩ := Γ
  intro X H locs ls hP hS hb hl
  exact lv_astore X.1 X.2.1 d (zL_has hl) h rfl (fun ls' h' => kk X H locs ls' hP hS hb (zL_set (v := zp v) hl rfl h'))
theorem zU_iinc {k : Nat} {v w : Int} (d : decode cc pc = .ok (.iinc k w, 3)) (h : L[k]? = some (some (zi v))) (kk : zU Γ cc own nL rt hh R k0 s0 Fn b n μ (pc + 3) (L.set k (some (zi (v + w)))) st) : zU Γ cc own nL rt hh R k0 s0 Fn b n μ pc L st := by
  obtain ⟨p, l, e, s, m, args, below, meth, c, D, cA, ad⟩ := Γ
  intro X H locs ls hP hS hb hl
  have hk : k < nL := by rw [← hl.1]; exact (List.getElem?_eq_some_iff.mp h).1
  obtain ⟨j, hj⟩ := List.getElem?_of_mem (zprs_mem (ad := ad) h)
  exact lv_iinc X.1 X.2.1 d (zL_has hl) hj (v := Int32.ofInt (v + w)) (by rw [Int32.ofInt_add]) hk rfl (fun ls' h' => kk X H locs ls' hP hS hb (zL_set (v := zi (v + w)) hl rfl h'))
theorem zU_iadd {x y : Int} (d : decode cc pc = .ok (.iadd, 1)) (kk : zU Γ cc own nL rt hh R k0 s0 Fn b n μ (pc + 1) L (zi (x + y) :: st)) : zU Γ cc own nL rt hh R k0 s0 Fn b n μ pc L (zi y :: zi x :: st) := by
  obtain ⟨p, l, e, s, m, args, below, meth, c, D, cA, ad⟩ := Γ
  intro X H locs ls hP hS hb hl
  refine lv_iadd (x := Int32.ofInt x) (y := Int32.ofInt y) X.1 X.2.1 d ?_
  rw [← Int32.ofInt_add]
  exact kk X H locs ls hP hS hb hl
theorem zU_isub {x y : Int} (d : decode cc pc = .ok (.isub, 1)) (kk : zU Γ cc own nL rt hh R k0 s0 Fn b n μ (pc + 1) L (zi (x - y) :: st)) : zU Γ cc own nL rt hh R k0 s0 Fn b n μ pc L (zi y :: zi x :: st) := by
  obtain ⟨p, l, e, s, m, args, below, meth, c, D, cA, ad⟩ := Γ
  intro X H locs ls hP hS hb hl
  refine lv_isub (x := Int32.ofInt x) (y := Int32.ofInt y) X.1 X.2.1 d ?_
  rw [← Int32.ofInt_sub]
  exact kk X H locs ls hP hS hb hl
theorem zU_imul {x y : Int} (d : decode cc pc = .ok (.imul, 1)) (kk : zU Γ cc own nL rt hh R k0 s0 Fn b n μ (pc + 1) L (zi (x * y) :: st)) : zU Γ cc own nL rt hh R k0 s0 Fn b n μ pc L (zi y :: zi x :: st) := by
  obtain ⟨p, l, e, s, m, args, below, meth, c, D, cA, ad⟩ := Γ
  intro X H locs ls hP hS hb hl
  refine lv_imul (x := Int32.ofInt x) (y := Int32.ofInt y) X.1 X.2.1 d ?_
  rw [← Int32.ofInt_mul]
  exact kk X H locs ls hP hS hb hl
def zR32 (x : Int) : Prop := -2147483648 ≤ x ∧ x ≤ 2147483647
theorem zto {x : Int} (h : -2147483648 ≤ x ∧ x ≤ 2147483647) : (Int32.ofInt x).toInt = x := Int32.toInt_ofInt_of_le (by have := h.1; omega) (by have := h.2; omega)
theorem zinj {x y : Int} (hx : -2147483648 ≤ x ∧ x ≤ 2147483647) (hy : -2147483648 ≤ y ∧ y ≤ 2147483647) : Int32.ofInt x = Int32.ofInt y ↔ x = y := by
  rw [← Int32.toInt_inj, zto hx, zto hy]
theorem zlt {x y : Int} (hx : -2147483648 ≤ x ∧ x ≤ 2147483647) (hy : -2147483648 ≤ y ∧ y ≤ 2147483647) : Int32.ofInt x < Int32.ofInt y ↔ x < y := by
  rw [Int32.lt_iff_toInt_lt, zto hx, zto hy]
theorem zle {x y : Int} (hx : -2147483648 ≤ x ∧ x ≤ 2147483647) (hy : -2147483648 ≤ y ∧ y ≤ 2147483647) : Int32.ofInt x ≤ Int32.ofInt y ↔ x ≤ y := by
  rw [Int32.le_iff_toInt_le, zto hx, zto hy]
theorem zin {i : Int} {N : Nat} (h : 0 ≤ i ∧ i < N) (hN : N ≤ 2147483647) : vp_in (Int32.ofInt i) N ∧ (Int32.ofInt i).toNatClampNeg = i.toNat := by
  have h1 : (Int32.ofInt i).toInt = i := zto (by omega)
  refine ⟨vp_in_iff.mpr (by rw [h1]; exact h), ?_⟩
  show (Int32.ofInt i).toInt.toNat = _
  rw [h1]
theorem zdiv {x y : Int} (hx : 0 ≤ x ∧ x ≤ 2147483647) (hy : 0 < y ∧ y ≤ 2147483647) : Int32.ofInt x / Int32.ofInt y = Int32.ofInt (x / y) := by
  have h1 : (Int32.ofInt x).toInt = x := zto (by omega)
  have h2 : (Int32.ofInt y).toInt = y := zto (by omega)
  have h3 : 0 ≤ x / y := Int.ediv_nonneg hx.1 (by omega)
  have h4 : x / y ≤ x := Int.ediv_le_self _ hx.1
  apply Int32.toInt_inj.mp
  have h5 : Int32.ofInt y ≠ -1 := by
    intro h
    rw [h] at h2
    have h6 : (-1 : Int32).toInt = -1 := by decide
    omega
  rw [Int32.toInt_div_of_ne_right _ _ h5, h1, h2, zto (by omega), Int.tdiv_eq_ediv_of_nonneg hx.1]
theorem zrem {x y : Int} (hx : 0 ≤ x ∧ x ≤ 2147483647) (hy : 0 < y ∧ y ≤ 2147483647) : Int32.ofInt x - Int32.ofInt x / Int32.ofInt y * Int32.ofInt y = Int32.ofInt (x % y) := by
  rw [zdiv hx hy, ← Int32.ofInt_mul, ← Int32.ofInt_sub]
  congr 1
  rw [Int.emod_def, Int.mul_comm]
theorem zU_idiv {x y : Int} (d : decode cc pc = .ok (.idiv, 1)) (hx : 0 ≤ x ∧ x ≤ 2147483647) (hy : 0 < y ∧ y ≤ 2147483647) (kk : zU Γ cc own nL rt hh R k0 s0 Fn b n μ (pc + 1) L (zi (x / y) :: st)) : zU Γ cc own nL rt hh R k0 s0 Fn b n μ pc L (zi y :: zi x :: st) := by
  obtain ⟨p, l, e, s, m, args, below, meth, c, D, cA, ad⟩ := Γ
  intro X H locs ls hP hS hb hl
  refine lv_idiv (x := Int32.ofInt x) (y := Int32.ofInt y) X.1 X.2.1 d (fun h => ?_) ?_
  · have h2 := (zinj (x := y) (y := 0) (by omega) (by omega)).mp (by rw [h]; rfl)
    omega
  rw [zdiv hx hy]
  exact kk X H locs ls hP hS hb hl
theorem zU_irem {x y : Int} (d : decode cc pc = .ok (.irem, 1)) (hx : 0 ≤ x ∧ x ≤ 2147483647) (hy : 0 < y ∧ y ≤ 2147483647) (kk : zU Γ cc own nL rt hh R k0 s0 Fn b n μ (pc + 1) L (zi (x % y) :: st)) : zU Γ cc own nL rt hh R k0 s0 Fn b n μ pc L (zi y :: zi x :: st) := by
  obtain ⟨p, l, e, s, m, args, below, meth, c, D, cA, ad⟩ := Γ
  intro X H locs ls hP hS hb hl
  refine lv_irem (x := Int32.ofInt x) (y := Int32.ofInt y) X.1 X.2.1 d (fun h => ?_) ?_
  · have h2 := (zinj (x := y) (y := 0) (by omega) (by omega)).mp (by rw [h]; rfl)
    omega
  rw [zrem hx hy]
  exact kk X H locs ls hP hS hb hl
def zand (x y : Int) : Int := (Int32.ofInt x &&& Int32.ofInt y).toInt
def zor (x y : Int) : Int := (Int32.ofInt x ||| Int32.ofInt y).toInt
def zxor (x y : Int) : Int := (Int32.ofInt x ^^^ Int32.ofInt y).toInt
def zshl (x y : Int) : Int := (Int32.ofInt x <<< (Int32.ofInt y &&& 31)).toInt
def zshr (x y : Int) : Int := (Int32.ofInt x >>> (Int32.ofInt y &&& 31)).toInt
theorem zU_iand {x y : Int} (d : decode cc pc = .ok (.iand, 1)) (kk : zU Γ cc own nL rt hh R k0 s0 Fn b n μ (pc + 1) L (zi (zand x y) :: st)) : zU Γ cc own nL rt hh R k0 s0 Fn b n μ pc L (zi y :: zi x :: st) := by
  obtain ⟨p, l, e, s, m, args, below, meth, c, D, cA, ad⟩ := Γ
  intro X H locs ls hP hS hb hl
  refine lv_iand (x := Int32.ofInt x) (y := Int32.ofInt y) X.1 X.2.1 d ?_
  have k := kk X H locs ls hP hS hb hl
  simp only [List.map_cons, zcv, zand, Int32.ofInt_toInt] at k
  exact k
theorem zU_ior {x y : Int} (d : decode cc pc = .ok (.ior, 1)) (kk : zU Γ cc own nL rt hh R k0 s0 Fn b n μ (pc + 1) L (zi (zor x y) :: st)) : zU Γ cc own nL rt hh R k0 s0 Fn b n μ pc L (zi y :: zi x :: st) := by
  obtain ⟨p, l, e, s, m, args, below, meth, c, D, cA, ad⟩ := Γ
  intro X H locs ls hP hS hb hl
  refine lv_ior (x := Int32.ofInt x) (y := Int32.ofInt y) X.1 X.2.1 d ?_
  have k := kk X H locs ls hP hS hb hl
  simp only [List.map_cons, zcv, zor, Int32.ofInt_toInt] at k
  exact k
theorem zU_ixor {x y : Int} (d : decode cc pc = .ok (.ixor, 1)) (kk : zU Γ cc own nL rt hh R k0 s0 Fn b n μ (pc + 1) L (zi (zxor x y) :: st)) : zU Γ cc own nL rt hh R k0 s0 Fn b n μ pc L (zi y :: zi x :: st) := by
  obtain ⟨p, l, e, s, m, args, below, meth, c, D, cA, ad⟩ := Γ
  intro X H locs ls hP hS hb hl
  refine lv_ixor (x := Int32.ofInt x) (y := Int32.ofInt y) X.1 X.2.1 d ?_
  have k := kk X H locs ls hP hS hb hl
  simp only [List.map_cons, zcv, zxor, Int32.ofInt_toInt] at k
  exact k
theorem zU_ishl {x y : Int} (d : decode cc pc = .ok (.ishl, 1)) (kk : zU Γ cc own nL rt hh R k0 s0 Fn b n μ (pc + 1) L (zi (zshl x y) :: st)) : zU Γ cc own nL rt hh R k0 s0 Fn b n μ pc L (zi y :: zi x :: st) := by
  obtain ⟨p, l, e, s, m, args, below, meth, c, D, cA, ad⟩ := Γ
  intro X H locs ls hP hS hb hl
  refine lv_ishl (x := Int32.ofInt x) (y := Int32.ofInt y) X.1 X.2.1 d ?_
  have k := kk X H locs ls hP hS hb hl
  simp only [List.map_cons, zcv, zshl, Int32.ofInt_toInt] at k
  exact k
theorem zU_ishr {x y : Int} (d : decode cc pc = .ok (.ishr, 1)) (kk : zU Γ cc own nL rt hh R k0 s0 Fn b n μ (pc + 1) L (zi (zshr x y) :: st)) : zU Γ cc own nL rt hh R k0 s0 Fn b n μ pc L (zi y :: zi x :: st) := by
  obtain ⟨p, l, e, s, m, args, below, meth, c, D, cA, ad⟩ := Γ
  intro X H locs ls hP hS hb hl
  refine lv_ishr (x := Int32.ofInt x) (y := Int32.ofInt y) X.1 X.2.1 d ?_
  have k := kk X H locs ls hP hS hb hl
  simp only [List.map_cons, zcv, zshr, Int32.ofInt_toInt] at k
  exact k
theorem zU_i2l {x : Int} (d : decode cc pc = .ok (.i2l, 1)) (hx : -2147483648 ≤ x ∧ x ≤ 2147483647) (kk : zU Γ cc own nL rt hh R k0 s0 Fn b n μ (pc + 1) L (zl x :: st)) : zU Γ cc own nL rt hh R k0 s0 Fn b n μ pc L (zi x :: st) := by
  obtain ⟨p, l, e, s, m, args, below, meth, c, D, cA, ad⟩ := Γ
  intro X H locs ls hP hS hb hl
  refine lv_i2l (x := Int32.ofInt x) (v := Int64.ofInt x) X.1 X.2.1 d ?_ (kk X H locs ls hP hS hb hl)
  apply Int64.toInt_inj.mp
  rw [Int32.toInt_toInt64, zto hx, Int64.toInt_ofInt_of_le (by have := hx.1; omega) (by have := hx.2; omega)]
theorem zU_lcmp {x y : Int} (d : decode cc pc = .ok (.lcmp, 1)) (hx : -2147483648 ≤ x ∧ x ≤ 2147483647) (hy : -2147483648 ≤ y ∧ y ≤ 2147483647) (kk : zU Γ cc own nL rt hh R k0 s0 Fn b n μ (pc + 1) L (zi (if y < x then 1 else if x < y then -1 else 0) :: st)) : zU Γ cc own nL rt hh R k0 s0 Fn b n μ pc L (zl y :: zl x :: st) := by
  obtain ⟨p, l, e, s, m, args, below, meth, c, D, cA, ad⟩ := Γ
  intro X H locs ls hP hS hb hl
  refine W.lcmp (x := Int64.ofInt x) (y := Int64.ofInt y) X.1 X.2.1 d ?_
  have e1 : (Int64.ofInt x).toInt = x := Int64.toInt_ofInt_of_le (by have := hx.1; omega) (by have := hx.2; omega)
  have e2 : (Int64.ofInt y).toInt = y := Int64.toInt_ofInt_of_le (by have := hy.1; omega) (by have := hy.2; omega)
  have e3 : lg_cmp (Int64.ofInt x) (Int64.ofInt y) = Int32.ofInt (if y < x then 1 else if x < y then -1 else 0) := by
    have he : (Int64.ofInt x = Int64.ofInt y) ↔ x = y := by rw [← Int64.toInt_inj, e1, e2]
    unfold lg_cmp
    simp only [Int64.lt_iff_toInt_lt, e1, e2, he]
    by_cases h1 : y < x
    · simp [h1]
    · by_cases h2 : x < y
      · have h3 : ¬ x = y := by omega
        simp [h1, h2, h3]
      · have h3 : x = y := by omega
        simp [h3]
  rw [e3]
  exact kk X H locs ls hP hS hb hl
theorem zU_dup {v : zV} (d : decode cc pc = .ok (.dup, 1)) (hv : zcat v = 1) (kk : zU Γ cc own nL rt hh R k0 s0 Fn b n μ (pc + 1) L (v :: v :: st)) : zU Γ cc own nL rt hh R k0 s0 Fn b n μ pc L (v :: st) := by
  obtain ⟨p, l, e, s, m, args, below, meth, c, D, cA, ad⟩ := Γ
  intro X H locs ls hP hS hb hl
  exact lv_dup X.1 X.2.1 d (by rw [zcat_cv]; exact hv) (kk X H locs ls hP hS hb hl)
theorem zU_pop {v : zV} (d : decode cc pc = .ok (.pop, 1)) (hv : zcat v = 1) (kk : zU Γ cc own nL rt hh R k0 s0 Fn b n μ (pc + 1) L st) : zU Γ cc own nL rt hh R k0 s0 Fn b n μ pc L (v :: st) := by
  obtain ⟨p, l, e, s, m, args, below, meth, c, D, cA, ad⟩ := Γ
  intro X H locs ls hP hS hb hl
  exact lv_pop X.1 X.2.1 d (by rw [zcat_cv]; exact hv) (kk X H locs ls hP hS hb hl)
theorem zU_dup2 {v w : zV} (d : decode cc pc = .ok (.dup2, 1)) (hv : zcat v = 1) (hw : zcat w = 1) (kk : zU Γ cc own nL rt hh R k0 s0 Fn b n μ (pc + 1) L (v :: w :: v :: w :: st)) : zU Γ cc own nL rt hh R k0 s0 Fn b n μ pc L (v :: w :: st) := by
  obtain ⟨p, l, e, s, m, args, below, meth, c, D, cA, ad⟩ := Γ
  intro X H locs ls hP hS hb hl
  exact lv_dup2_11 X.1 X.2.1 d (by rw [zcat_cv]; exact hv) (by rw [zcat_cv]; exact hw) (kk X H locs ls hP hS hb hl)
theorem zU_dup_x1 {v w : zV} (d : decode cc pc = .ok (.dup_x1, 1)) (hv : zcat v = 1) (hw : zcat w = 1) (kk : zU Γ cc own nL rt hh R k0 s0 Fn b n μ (pc + 1) L (v :: w :: v :: st)) : zU Γ cc own nL rt hh R k0 s0 Fn b n μ pc L (v :: w :: st) := by
  obtain ⟨p, l, e, s, m, args, below, meth, c, D, cA, ad⟩ := Γ
  intro X H locs ls hP hS hb hl
  exact lv_dup_x1 X.1 X.2.1 d (by rw [zcat_cv]; exact hv) (by rw [zcat_cv]; exact hw) (kk X H locs ls hP hS hb hl)
theorem zU_icmp_eq {x y : Int} {off : Int} (tgt : Nat) (d : decode cc pc = .ok (.if_icmp .eq off, 3)) (ht : (pc : Int) + off = (tgt : Int)) (hx : -2147483648 ≤ x ∧ x ≤ 2147483647) (hy : -2147483648 ≤ y ∧ y ≤ 2147483647) (kt : x = y → zU Γ cc own nL rt hh R k0 s0 Fn b n μ tgt L st) (kf : ¬ x = y → zU Γ cc own nL rt hh R k0 s0 Fn b n μ (pc + 3) L st) : zU Γ cc own nL rt hh R k0 s0 Fn b n μ pc L (zi y :: zi x :: st) := by
  obtain ⟨p, l, e, s, m, args, below, meth, c, D, cA, ad⟩ := Γ
  intro X H locs ls hP hS hb hl
  have i := zinj hx hy
  exact lv_icmp_eq X.1 X.2.1 d ht (fun h => kt (by simpa [i] using h) X H locs ls hP hS hb hl) (fun h => kf (by simpa [i] using h) X H locs ls hP hS hb hl)
theorem zU_if_eq {x : Int} {off : Int} (tgt : Nat) (d : decode cc pc = .ok (.ifCond .eq off, 3)) (ht : (pc : Int) + off = (tgt : Int)) (hx : -2147483648 ≤ x ∧ x ≤ 2147483647) (kt : x = 0 → zU Γ cc own nL rt hh R k0 s0 Fn b n μ tgt L st) (kf : ¬ x = 0 → zU Γ cc own nL rt hh R k0 s0 Fn b n μ (pc + 3) L st) : zU Γ cc own nL rt hh R k0 s0 Fn b n μ pc L (zi x :: st) := by
  obtain ⟨p, l, e, s, m, args, below, meth, c, D, cA, ad⟩ := Γ
  intro X H locs ls hP hS hb hl
  have h0 : -2147483648 ≤ (0 : Int) ∧ (0 : Int) ≤ 2147483647 := by omega
  have i := zinj hx h0
  rw [show Int32.ofInt 0 = 0 from rfl] at i
  exact lv_if_eq X.1 X.2.1 d ht (fun h => kt (by simpa [i] using h) X H locs ls hP hS hb hl) (fun h => kf (by simpa [i] using h) X H locs ls hP hS hb hl)
theorem zU_icmp_ne {x y : Int} {off : Int} (tgt : Nat) (d : decode cc pc = .ok (.if_icmp .ne off, 3)) (ht : (pc : Int) + off = (tgt : Int)) (hx : -2147483648 ≤ x ∧ x ≤ 2147483647) (hy : -2147483648 ≤ y ∧ y ≤ 2147483647) (kt : ¬ x = y → zU Γ cc own nL rt hh R k0 s0 Fn b n μ tgt L st) (kf : x = y → zU Γ cc own nL rt hh R k0 s0 Fn b n μ (pc + 3) L st) : zU Γ cc own nL rt hh R k0 s0 Fn b n μ pc L (zi y :: zi x :: st) := by
  obtain ⟨p, l, e, s, m, args, below, meth, c, D, cA, ad⟩ := Γ
  intro X H locs ls hP hS hb hl
  have i := zinj hx hy
  exact lv_icmp_ne X.1 X.2.1 d ht (fun h => kt (by simpa [i] using h) X H locs ls hP hS hb hl) (fun h => kf (by simpa [i] using h) X H locs ls hP hS hb hl)
theorem zU_if_ne {x : Int} {off : Int} (tgt : Nat) (d : decode cc pc = .ok (.ifCond .ne off, 3)) (ht : (pc : Int) + off = (tgt : Int)) (hx : -2147483648 ≤ x ∧ x ≤ 2147483647) (kt : ¬ x = 0 → zU Γ cc own nL rt hh R k0 s0 Fn b n μ tgt L st) (kf : x = 0 → zU Γ cc own nL rt hh R k0 s0 Fn b n μ (pc + 3) L st) : zU Γ cc own nL rt hh R k0 s0 Fn b n μ pc L (zi x :: st) := by
  obtain ⟨p, l, e, s, m, args, below, meth, c, D, cA, ad⟩ := Γ
  intro X H locs ls hP hS hb hl
  have h0 : -2147483648 ≤ (0 : Int) ∧ (0 : Int) ≤ 2147483647 := by omega
  have i := zinj hx h0
  rw [show Int32.ofInt 0 = 0 from rfl] at i
  exact lv_if_ne X.1 X.2.1 d ht (fun h => kt (by simpa [i] using h) X H locs ls hP hS hb hl) (fun h => kf (by simpa [i] using h) X H locs ls hP hS hb hl)
theorem zU_icmp_lt {x y : Int} {off : Int} (tgt : Nat) (d : decode cc pc = .ok (.if_icmp .lt off, 3)) (ht : (pc : Int) + off = (tgt : Int)) (hx : -2147483648 ≤ x ∧ x ≤ 2147483647) (hy : -2147483648 ≤ y ∧ y ≤ 2147483647) (kt : x < y → zU Γ cc own nL rt hh R k0 s0 Fn b n μ tgt L st) (kf : ¬ x < y → zU Γ cc own nL rt hh R k0 s0 Fn b n μ (pc + 3) L st) : zU Γ cc own nL rt hh R k0 s0 Fn b n μ pc L (zi y :: zi x :: st) := by
  obtain ⟨p, l, e, s, m, args, below, meth, c, D, cA, ad⟩ := Γ
  intro X H locs ls hP hS hb hl
  have i := zlt hx hy
  exact lv_icmp_lt X.1 X.2.1 d ht (fun h => kt (by simpa [i] using h) X H locs ls hP hS hb hl) (fun h => kf (by simpa [i] using h) X H locs ls hP hS hb hl)
theorem zU_if_lt {x : Int} {off : Int} (tgt : Nat) (d : decode cc pc = .ok (.ifCond .lt off, 3)) (ht : (pc : Int) + off = (tgt : Int)) (hx : -2147483648 ≤ x ∧ x ≤ 2147483647) (kt : x < 0 → zU Γ cc own nL rt hh R k0 s0 Fn b n μ tgt L st) (kf : ¬ x < 0 → zU Γ cc own nL rt hh R k0 s0 Fn b n μ (pc + 3) L st) : zU Γ cc own nL rt hh R k0 s0 Fn b n μ pc L (zi x :: st) := by
  obtain ⟨p, l, e, s, m, args, below, meth, c, D, cA, ad⟩ := Γ
  intro X H locs ls hP hS hb hl
  have h0 : -2147483648 ≤ (0 : Int) ∧ (0 : Int) ≤ 2147483647 := by omega
  have i := zlt hx h0
  rw [show Int32.ofInt 0 = 0 from rfl] at i
  exact lv_if_lt X.1 X.2.1 d ht (fun h => kt (by simpa [i] using h) X H locs ls hP hS hb hl) (fun h => kf (by simpa [i] using h) X H locs ls hP hS hb hl)
theorem zU_icmp_ge {x y : Int} {off : Int} (tgt : Nat) (d : decode cc pc = .ok (.if_icmp .ge off, 3)) (ht : (pc : Int) + off = (tgt : Int)) (hx : -2147483648 ≤ x ∧ x ≤ 2147483647) (hy : -2147483648 ≤ y ∧ y ≤ 2147483647) (kt : y ≤ x → zU Γ cc own nL rt hh R k0 s0 Fn b n μ tgt L st) (kf : ¬ y ≤ x → zU Γ cc own nL rt hh R k0 s0 Fn b n μ (pc + 3) L st) : zU Γ cc own nL rt hh R k0 s0 Fn b n μ pc L (zi y :: zi x :: st) := by
  obtain ⟨p, l, e, s, m, args, below, meth, c, D, cA, ad⟩ := Γ
  intro X H locs ls hP hS hb hl
  have i := zle hy hx
  exact lv_icmp_ge X.1 X.2.1 d ht (fun h => kt (by simpa [i] using h) X H locs ls hP hS hb hl) (fun h => kf (by simpa [i] using h) X H locs ls hP hS hb hl)
theorem zU_if_ge {x : Int} {off : Int} (tgt : Nat) (d : decode cc pc = .ok (.ifCond .ge off, 3)) (ht : (pc : Int) + off = (tgt : Int)) (hx : -2147483648 ≤ x ∧ x ≤ 2147483647) (kt : 0 ≤ x → zU Γ cc own nL rt hh R k0 s0 Fn b n μ tgt L st) (kf : ¬ 0 ≤ x → zU Γ cc own nL rt hh R k0 s0 Fn b n μ (pc + 3) L st) : zU Γ cc own nL rt hh R k0 s0 Fn b n μ pc L (zi x :: st) := by
  obtain ⟨p, l, e, s, m, args, below, meth, c, D, cA, ad⟩ := Γ
  intro X H locs ls hP hS hb hl
  have h0 : -2147483648 ≤ (0 : Int) ∧ (0 : Int) ≤ 2147483647 := by omega
  have i := zle h0 hx
  rw [show Int32.ofInt 0 = 0 from rfl] at i
  exact lv_if_ge X.1 X.2.1 d ht (fun h => kt (by simpa [i] using h) X H locs ls hP hS hb hl) (fun h => kf (by simpa [i] using h) X H locs ls hP hS hb hl)
theorem zU_icmp_gt {x y : Int} {off : Int} (tgt : Nat) (d : decode cc pc = .ok (.if_icmp .gt off, 3)) (ht : (pc : Int) + off = (tgt : Int)) (hx : -2147483648 ≤ x ∧ x ≤ 2147483647) (hy : -2147483648 ≤ y ∧ y ≤ 2147483647) (kt : y < x → zU Γ cc own nL rt hh R k0 s0 Fn b n μ tgt L st) (kf : ¬ y < x → zU Γ cc own nL rt hh R k0 s0 Fn b n μ (pc + 3) L st) : zU Γ cc own nL rt hh R k0 s0 Fn b n μ pc L (zi y :: zi x :: st) := by
  obtain ⟨p, l, e, s, m, args, below, meth, c, D, cA, ad⟩ := Γ
  intro X H locs ls hP hS hb hl
  have i := zlt hy hx
  exact lv_icmp_gt X.1 X.2.1 d ht (fun h => kt (by simpa [i] using h) X H locs ls hP hS hb hl) (fun h => kf (by simpa [i] using h) X H locs ls hP hS hb hl)
theorem zU_if_gt {x : Int} {off : Int} (tgt : Nat) (d : decode cc pc = .ok (.ifCond .gt off, 3)) (ht : (pc : Int) + off = (tgt : Int)) (hx : -2147483648 ≤ x ∧ x ≤ 2147483647) (kt : 0 < x → zU Γ cc own nL rt hh R k0 s0 Fn b n μ tgt L st) (kf : ¬ 0 < x → zU Γ cc own nL rt hh R k0 s0 Fn b n μ (pc + 3) L st) : zU Γ cc own nL rt hh R k0 s0 Fn b n μ pc L (zi x :: st) := by
  obtain ⟨p, l, e, s, m, args, below, meth, c, D, cA, ad⟩ := Γ
  intro X H locs ls hP hS hb hl
  have h0 : -2147483648 ≤ (0 : Int) ∧ (0 : Int) ≤ 2147483647 := by omega
  have i := zlt h0 hx
  rw [show Int32.ofInt 0 = 0 from rfl] at i
  exact lv_if_gt X.1 X.2.1 d ht (fun h => kt (by simpa [i] using h) X H locs ls hP hS hb hl) (fun h => kf (by simpa [i] using h) X H locs ls hP hS hb hl)
theorem zU_icmp_le {x y : Int} {off : Int} (tgt : Nat) (d : decode cc pc = .ok (.if_icmp .le off, 3)) (ht : (pc : Int) + off = (tgt : Int)) (hx : -2147483648 ≤ x ∧ x ≤ 2147483647) (hy : -2147483648 ≤ y ∧ y ≤ 2147483647) (kt : x ≤ y → zU Γ cc own nL rt hh R k0 s0 Fn b n μ tgt L st) (kf : ¬ x ≤ y → zU Γ cc own nL rt hh R k0 s0 Fn b n μ (pc + 3) L st) : zU Γ cc own nL rt hh R k0 s0 Fn b n μ pc L (zi y :: zi x :: st) := by
  obtain ⟨p, l, e, s, m, args, below, meth, c, D, cA, ad⟩ := Γ
  intro X H locs ls hP hS hb hl
  have i := zle hx hy
  exact lv_icmp_le X.1 X.2.1 d ht (fun h => kt (by simpa [i] using h) X H locs ls hP hS hb hl) (fun h => kf (by simpa [i] using h) X H locs ls hP hS hb hl)
theorem zU_if_le {x : Int} {off : Int} (tgt : Nat) (d : decode cc pc = .ok (.ifCond .le off, 3)) (ht : (pc : Int) + off = (tgt : Int)) (hx : -2147483648 ≤ x ∧ x ≤ 2147483647) (kt : x ≤ 0 → zU Γ cc own nL rt hh R k0 s0 Fn b n μ tgt L st) (kf : ¬ x ≤ 0 → zU Γ cc own nL rt hh R k0 s0 Fn b n μ (pc + 3) L st) : zU Γ cc own nL rt hh R k0 s0 Fn b n μ pc L (zi x :: st) := by
  obtain ⟨p, l, e, s, m, args, below, meth, c, D, cA, ad⟩ := Γ
  intro X H locs ls hP hS hb hl
  have h0 : -2147483648 ≤ (0 : Int) ∧ (0 : Int) ≤ 2147483647 := by omega
  have i := zle hx h0
  rw [show Int32.ofInt 0 = 0 from rfl] at i
  exact lv_if_le X.1 X.2.1 d ht (fun h => kt (by simpa [i] using h) X H locs ls hP hS hb hl) (fun h => kf (by simpa [i] using h) X H locs ls hP hS hb hl)
theorem zU_goto {off : Int} (tgt : Nat) (d : decode cc pc = .ok (.goto off, 3)) (ht : (pc : Int) + off = (tgt : Int)) (kk : zU Γ cc own nL rt hh R k0 s0 Fn b n μ tgt L st) : zU Γ cc own nL rt hh R k0 s0 Fn b n μ pc L st := by
  obtain ⟨p, l, e, s, m, args, below, meth, c, D, cA, ad⟩ := Γ
  intro X H locs ls hP hS hb hl
  exact lv_goto X.1 X.2.1 d ht (kk X H locs ls hP hS hb hl)
end ZR
