/-! constructors: words, arrays -/
def wI : List Cond := tables_1.filter goodWord
theorem wImem (i : Nat) {w : Cond} (h : tables_1[i]? = some w) (hz : goodWord w = true) : w ∈ wI := List.mem_filter.mpr ⟨List.mem_of_getElem? h, hz⟩
theorem wImems (is : List Nat) {ws : List Cond} (h : is.map (fun i => tables_1[i]?) = ws.map some) (hz : ws.all goodWord = true) : ∀ w ∈ ws, w ∈ wI := by
  intro w hw
  obtain ⟨j, hj⟩ := List.getElem?_of_mem hw
  have h1 : (is.map (fun i => tables_1[i]?))[j]? = some (some w) := by rw [h, List.getElem?_map, hj]; rfl
  rw [List.getElem?_map] at h1
  cases hi : is[j]? with
  | none => rw [hi] at h1; cases h1
  | some i =>
    rw [hi] at h1
    exact wImem i (Option.some.inj h1) (List.all_eq_true.mp hz w hw)
theorem wIgood {big : List Cond} {c : Cond} (hb : ∀ w ∈ wI, w ∈ big) (hc : c ∈ wI) : GoodIn big (c :: wI) := by
  intro w hw
  have hw2 : w ∈ wI := by
    rcases List.mem_cons.mp hw with rfl | h
    · exact hc
    · exact h
  exact ⟨hb w hw2, good_of_word (List.mem_filter.mp hw2).2⟩
/-- the words on private makers and on the row of automata -/
def zNw (U : State) : Prop := va_Nw (.methodLinkNest n_A 17 y_M_init n_C) U ∧ va_Nw (.methodLinkNest n_C 18 y_G_init n_C) U ∧ va_Nw (.methodLinkNest n_C 39 y_S_init n_C) U ∧ va_AO zAo U
theorem zNw.warm {s U : State} (h : zNw s) (hW : s.WarmedH U.vm) : zNw U := ⟨va_Nw.warmM hW h.1, va_Nw.warmM hW h.2.1, va_Nw.warmM hW h.2.2.1, va_AO.moved hW.alike h.2.2.2⟩
theorem zNw.calling {U : State} (h : zNw U) {g : JFrame} {mk : MethodId} {a : Array Value} : zNw (U.calling g mk a) := ⟨va_Nw.same (u := U) rfl rfl h.1, va_Nw.same (u := U) rfl rfl h.2.1, va_Nw.same (u := U) rfl rfl h.2.2.1, va_AO.moved (u := U) (U := U.calling g mk a) (Vm.Alike.refl _) h.2.2.2⟩
section ZNA
variable {p : Program} {l : Launch} {e : Env} {R : Room} {s : State} {m : MethodId} {args : Array Value} {below : List Frame} {meth : Method} {c : Code} {H : Heap} {locs : List Loc} {cells slots : Nat} {Q : State → Prop}
variable {cc : ByteArray} {pc : Nat} {ls : Array Slot} {rest : List Value} {D : va_G} {cA : Nat → ClassId} {A : Nat → Prop} {ws : va_W} {H0 : Heap}
theorem zn_int (hexec : p.tables.exec = Jvm.exec) (hb : c.code = cc) (harr : (Cond.arrayClass .int).before args s = true) (hK : va_K D zcl (zty cA) s) (hP : va_P D zcl ws H) (hD : va_D A ws) (hS : va_S A H0 H locs) (hA : ∀ q, H0.size ≤ q → A q) {n : Int32} (N : Nat) (hn : ¬ n < 0) (hN : n.toNatClampNeg = N) (hbytes : N * componentBytes .int ≤ 536870912) (hcells : cells + 1 ≤ R.cells) (hslots : slots + N ≤ R.slots) (hdg : decode cc pc = .ok (.newarray .int, 2))
    (kk : ∀ (q : Nat) (H1 : Heap), va_P D zcl (ws ++ [(q, .inl (cA 0, N, .inl (fun _ => 0)))]) H1 → va_D A (ws ++ [(q, .inl (cA 0, N, .inl (fun _ => 0)))]) → va_S A H0 H1 locs → W p l e R s m args below meth c H1 locs (cells + 1) (slots + N) Q (F0 m (pc + 2) ls (.ref q :: rest))) : W p l e R s m args below meth c H locs cells slots Q (F0 m pc ls (.int n :: rest)) := by
  refine va_newa (atype := .int) (ty := .int) (a0 := (N, .inl (fun _ => 0))) hexec hb harr rfl hK hP hD hS hA (fun _ => rfl) hn hN hbytes hcells hslots hdg (fun q cA' H1 hK1 hP1 hD1 hS1 => ?_)
  have h1 : s.vm.findClass ("[" ++ FieldType.int.toString) = some cA' := (hK1.2 (zty cA).length (cA', .int) (by simp)).2
  have h2 : s.vm.findClass ("[" ++ FieldType.int.toString) = some (cA 0) := (hK.2 0 (cA 0, .int) rfl).2
  have h3 : cA' = cA 0 := Option.some.inj (h1.symm.trans h2)
  subst h3
  exact kk q H1 hP1 hD1 hS1
theorem zn_bool (hexec : p.tables.exec = Jvm.exec) (hb : c.code = cc) (harr : (Cond.arrayClass .boolean).before args s = true) (hK : va_K D zcl (zty cA) s) (hP : va_P D zcl ws H) (hD : va_D A ws) (hS : va_S A H0 H locs) (hA : ∀ q, H0.size ≤ q → A q) {n : Int32} (N : Nat) (hn : ¬ n < 0) (hN : n.toNatClampNeg = N) (hbytes : N * componentBytes .boolean ≤ 536870912) (hcells : cells + 1 ≤ R.cells) (hslots : slots + N ≤ R.slots) (hdg : decode cc pc = .ok (.newarray .boolean, 2))
    (kk : ∀ (q : Nat) (H1 : Heap), va_P D zcl (ws ++ [(q, .inl (cA 1, N, .inl (fun _ => 0)))]) H1 → va_D A (ws ++ [(q, .inl (cA 1, N, .inl (fun _ => 0)))]) → va_S A H0 H1 locs → W p l e R s m args below meth c H1 locs (cells + 1) (slots + N) Q (F0 m (pc + 2) ls (.ref q :: rest))) : W p l e R s m args below meth c H locs cells slots Q (F0 m pc ls (.int n :: rest)) := by
  refine va_newa (atype := .boolean) (ty := .boolean) (a0 := (N, .inl (fun _ => 0))) hexec hb harr rfl hK hP hD hS hA (fun _ => rfl) hn hN hbytes hcells hslots hdg (fun q cA' H1 hK1 hP1 hD1 hS1 => ?_)
  have h1 : s.vm.findClass ("[" ++ FieldType.boolean.toString) = some cA' := (hK1.2 (zty cA).length (cA', .boolean) (by simp)).2
  have h2 : s.vm.findClass ("[" ++ FieldType.boolean.toString) = some (cA 1) := (hK.2 1 (cA 1, .boolean) rfl).2
  have h3 : cA' = cA 1 := Option.some.inj (h1.symm.trans h2)
  subst h3
  exact kk q H1 hP1 hD1 hS1
theorem zn_long (hexec : p.tables.exec = Jvm.exec) (hb : c.code = cc) (harr : (Cond.arrayClass .long).before args s = true) (hK : va_K D zcl (zty cA) s) (hP : va_P D zcl ws H) (hD : va_D A ws) (hS : va_S A H0 H locs) (hA : ∀ q, H0.size ≤ q → A q) {n : Int32} (N : Nat) (hn : ¬ n < 0) (hN : n.toNatClampNeg = N) (hbytes : N * componentBytes .long ≤ 536870912) (hcells : cells + 1 ≤ R.cells) (hslots : slots + N ≤ R.slots) (hdg : decode cc pc = .ok (.newarray .long, 2))
    (kk : ∀ (q : Nat) (H1 : Heap), va_P D zcl (ws ++ [(q, .inl (cA 2, N, .inr (.inl (fun _ => 0))))]) H1 → va_D A (ws ++ [(q, .inl (cA 2, N, .inr (.inl (fun _ => 0))))]) → va_S A H0 H1 locs → W p l e R s m args below meth c H1 locs (cells + 1) (slots + N) Q (F0 m (pc + 2) ls (.ref q :: rest))) : W p l e R s m args below meth c H locs cells slots Q (F0 m pc ls (.int n :: rest)) := by
  refine va_newa (atype := .long) (ty := .long) (a0 := (N, .inr (.inl (fun _ => 0)))) hexec hb harr rfl hK hP hD hS hA (fun _ => rfl) hn hN hbytes hcells hslots hdg (fun q cA' H1 hK1 hP1 hD1 hS1 => ?_)
  have h1 : s.vm.findClass ("[" ++ FieldType.long.toString) = some cA' := (hK1.2 (zty cA).length (cA', .long) (by simp)).2
  have h2 : s.vm.findClass ("[" ++ FieldType.long.toString) = some (cA 2) := (hK.2 2 (cA 2, .long) rfl).2
  have h3 : cA' = cA 2 := Option.some.inj (h1.symm.trans h2)
  subst h3
  exact kk q H1 hP1 hD1 hS1
theorem zn_row (hexec : p.tables.exec = Jvm.exec) (hb : c.code = cc) {own : String} {index : Nat} (hown : s.vm.findClass own = some m.cls) (hclink : (Cond.classLink own index zAo).before args s = true) (hover : va_AO zAo s) (hK : va_K D zcl (zty cA) s) (hP : va_P D zcl ws H) (hD : va_D A ws) (hS : va_S A H0 H locs) (hA : ∀ q, H0.size ≤ q → A q) {n : Int32} (N : Nat) (hn : ¬ n < 0) (hN : n.toNatClampNeg = N) (hbytes : N * 4 ≤ 536870912) (hcells : cells + 1 ≤ R.cells) (hslots : slots + N ≤ R.slots) (hdg : decode cc pc = .ok (.anewarray index, 3))
    (kk : ∀ (q : Nat) (H1 : Heap), va_P D zcl (ws ++ [(q, .inl (cA 3, N, .inr (.inr (.inr (.inr (fun _ => none))))))]) H1 → va_D A (ws ++ [(q, .inl (cA 3, N, .inr (.inr (.inr (.inr (fun _ => none))))))]) → va_S A H0 H1 locs → W p l e R s m args below meth c H1 locs (cells + 1) (slots + N) Q (F0 m (pc + 3) ls (.ref q :: rest))) : W p l e R s m args below meth c H locs cells slots Q (F0 m pc ls (.int n :: rest)) := by
  refine va_newq hexec hb hown hclink hover hK hP hD hS hA hn hN hbytes hcells hslots hdg (fun q cA' H1 hK1 hP1 hD1 hS1 => ?_)
  obtain ⟨_, _, _, _, _, h1⟩ := (hK1.2 (zty cA).length (cA', .object zAo) (by simp)).2
  obtain ⟨_, _, _, _, _, h2⟩ := (hK.2 3 (cA 3, .object zAo) rfl).2
  have h3 : cA' = cA 3 := Option.some.inj (h1.symm.trans h2)
  subst h3
  exact kk q H1 hP1 hD1 hS1
end ZNA
