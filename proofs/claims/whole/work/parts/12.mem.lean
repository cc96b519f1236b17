/-! fields and arrays -/
def zFd (own : String) (ix ci k : Nat) (C : String) (T : u_T) (N : Nat) : Prop := zcl[ci]? = some (C, T, N) ∧ k < N ∧ zF ci = N ∧ (∀ w ∈ u_ws C T N, w ∈ zWS) ∧
  (Cond.fieldLink own ix (T k).1 (T k).2.1 (T k).2.2.1 ∈ zWS ∨ ∃ host, Cond.fieldLinkNest own ix (T k).1 (T k).2.1 (T k).2.2.1 host ∈ zWS)
def zFp (k : Nat) (T : u_T) (N : Nat) (ty0 : Nat → FieldType) : Prop := (∀ k, k < N → parseFieldDescriptor (T k).2.2.1 = some (ty0 k)) ∧ (∀ a, a < N → ∀ b, b < N → a ≠ b → (T a).2.1 ≠ (T b).2.1) ∧ (T k).2.2.2 = false ∧ k < N
theorem zce_obj {cA : Nat → ClassId} {ad : Nat → Nat} {p ci : Nat} {f : Nat → Int} (hk : zK p = .inr ci) : zce cA ad p f = .inr (ci, (List.range (zF ci)).map (zfv ad p ci f)) := by
  simp [zce, hk]
theorem zfs_get {ad : Nat → Nat} {p ci k : Nat} {f : Nat → Int} (h : k < zF ci) : ((List.range (zF ci)).map (zfv ad p ci f))[k]? = some (zfv ad p ci f k) := by
  rw [List.getElem?_map, List.getElem?_range h]
  rfl
theorem zfs_set {ad : Nat → Nat} {p ci k : Nat} {μ : zM} {x : Int} (hI : zI ci k = false) : ((List.range (zF ci)).map (zfv ad p ci (μ p))).set k (.int (Int32.ofInt x)) = (List.range (zF ci)).map (zfv ad p ci (zup μ p k x p)) := by
  apply List.ext_getElem?
  intro j
  by_cases hj : j < zF ci
  · rw [zfs_get hj]
    by_cases hk : j = k
    · subst hk
      rw [List.getElem?_set_self (by simpa using hj)]
      simp [zfv, hI, zup]
    · rw [List.getElem?_set_ne (Ne.symm hk), zfs_get hj]
      simp [zfv, zup, hk]
  · rw [List.getElem?_eq_none (by simpa using hj), List.getElem?_eq_none (by simpa using hj)]
section ZF
variable {Γ : zG} {cc : ByteArray} {own : String} {nL : Nat} {rt : Option FieldType} {hh : List (Nat × Nat × Nat × Nat)} {R : Room} {k0 s0 fr nb lo : Nat} {Fn : State → Prop} {pb b : Bool} {Q : zO → zM → Prop} {n : Nat} {μ : zM} {pc : Nat} {L : List (Option zV)} {st : List zV}
theorem zU_get0 {p k ci ix : Nat} {C : String} {T : u_T} {N : Nat} {v : zV} (d : decode cc pc = .ok (.getfield ix, 3)) (f : zFd own ix ci k C T N) (hp : p < zN) (hk : zK p = .inr ci) (hv : ∀ ad, zfv ad p ci (μ p) k = zcv ad v)
    (kk : zU Γ cc own nL rt hh R k0 s0 Fn b n μ (pc + 3) L (v :: st)) : zU Γ cc own nL rt hh R k0 s0 Fn b n μ pc L (zp p :: st) := by
  obtain ⟨p', l, e, s, m, args, below, meth, c, D, cA, ad⟩ := Γ
  intro X H locs ls hP hS hb hl
  obtain ⟨hx, hb1, -, -, -, -, hown, hT, hK, -⟩ := id X
  obtain ⟨hc, hkN, hF, hu, hlk⟩ := f
  have hw := zW_get (cA := cA) (ad := ad) (μ := μ) hp
  rw [zce_obj hk] at hw
  have hts : ∀ w ∈ u_ws C T N, w.before args s = true := fun w h => hT.at (hu w h) (by
    obtain ⟨j, -, rfl⟩ := List.mem_map.mp h
    unfold u_lay
    split <;> rfl)
  have hg := zfs_get (ad := ad) (p := p) (f := μ p) (show k < zF ci by rw [hF]; exact hkN)
  rw [hv ad] at hg
  rcases hlk with hlk | ⟨host, hlk⟩
  · exact va_get hx hb1 hts (fun w h => h) hown hK hP p hw hc k hkN (hT.at hlk rfl) (fun x h => h) hg d (kk X H locs ls hP hS hb hl)
  · exact va_getN hx hb1 hts (fun w h => h) hown hK hP p hw hc k hkN (hT.at hlk rfl) (fun x h => h) hg d (kk X H locs ls hP hS hb hl)
/-- a field that holds a number -/
theorem zU_getI {p k ci ix : Nat} {C : String} {T : u_T} {N : Nat} {v : Int} (d : decode cc pc = .ok (.getfield ix, 3)) (f : zFd own ix ci k C T N) (hp : p < zN) (hk : zK p = .inr ci) (hI : zI ci k = false) (hv : μ p k = v)
    (kk : zU Γ cc own nL rt hh R k0 s0 Fn b n μ (pc + 3) L (zi v :: st)) : zU Γ cc own nL rt hh R k0 s0 Fn b n μ pc L (zp p :: st) :=
  zU_get0 d f hp hk (fun ad => by simp [zfv, hI, zcv, hv]) kk
/-- a field that holds a reference -/
theorem zU_getR {p k ci ix : Nat} (q : Nat) {C : String} {T : u_T} {N : Nat} (d : decode cc pc = .ok (.getfield ix, 3)) (f : zFd own ix ci k C T N) (hp : p < zN) (hk : zK p = .inr ci) (hI : zI ci k = true) (hq : zR p k = q)
    (kk : zU Γ cc own nL rt hh R k0 s0 Fn b n μ (pc + 3) L (zp q :: st)) : zU Γ cc own nL rt hh R k0 s0 Fn b n μ pc L (zp p :: st) :=
  zU_get0 d f hp hk (fun ad => by simp [zfv, hI, zcv, hq]) kk
theorem zU_putI {p k ci ix : Nat} {C : String} {T : u_T} {N : Nat} {ty0 : Nat → FieldType} {x : Int} (d : decode cc pc = .ok (.putfield ix, 3)) (f : zFd own ix ci k C T N) (f2 : zFp k T N ty0) (hp : p < zN) (hk : zK p = .inr ci) (hI : zI ci k = false)
    (hx : ty0 k = .int ∨ (ty0 k = .boolean ∧ (x = 0 ∨ x = 1))) (kk : zU Γ cc own nL rt hh R k0 s0 Fn false n (zup μ p k x) (pc + 3) L st) : zU Γ cc own nL rt hh R k0 s0 Fn b n μ pc L (zi x :: zp p :: st) := by
  obtain ⟨p', l, e, s, m, args, below, meth, c, D, cA, ad⟩ := Γ
  intro X H locs ls hP hS hb hl
  obtain ⟨hx1, hb1, -, -, -, -, hown, hT, hK, hJ, -⟩ := id X
  obtain ⟨hc, hkN, hF, hu, hlk⟩ := f
  obtain ⟨g1, g2, g3, -⟩ := f2
  have hw := zW_get (cA := cA) (ad := ad) (μ := μ) hp
  rw [zce_obj hk] at hw
  have hts : ∀ w ∈ u_ws C T N, w.before args s = true := fun w h => hT.at (hu w h) (by
    obtain ⟨j, -, rfl⟩ := List.mem_map.mp h
    unfold u_lay
    split <;> rfl)
  have hn : narrow (ty0 k) (.int (Int32.ofInt x)) = .int (Int32.ofInt x) := by
    rcases hx with h | ⟨h, rfl | rfl⟩ <;> rw [h] <;> rfl
  have hfit : fits (ty0 k) (.int (Int32.ofInt x)) = true := by
    rcases hx with h | ⟨h, rfl | rfl⟩ <;> rw [h] <;> rfl
  have hkl : k < ((List.range (zF ci)).map (zfv ad p ci (μ p))).length := by
    simp [hF, hkN]
  have hset : (zW cA ad μ).set p (ad p, .inr (ci, ((List.range (zF ci)).map (zfv ad p ci (μ p))).set k (.int (Int32.ofInt x)))) = zW cA ad (zup μ p k x) := by
    rw [zfs_set hI, ← zce_obj (cA := cA) hk]
    exact zW_set (fun q hq => zup_ne μ k x hq)
  rcases hlk with hlk | ⟨host, hlk⟩
  · refine va_put (v := .int (Int32.ofInt x)) hx1 hb1 hts (fun w h => h) ty0 g1 g2 hown hK hP (zD_of hJ) hS p hw hc k hkN (hT.at hlk rfl) (fun x h => h) g3 (g1 k hkN) hn hfit hkl d (fun H1 locs1 hP1 _ hS1 => ?_)
    rw [hset] at hP1
    exact kk X H1 locs1 ls hP1 hS1 (fun h => by cases h) hl
  · refine va_putN (v := .int (Int32.ofInt x)) hx1 hb1 hts (fun w h => h) ty0 g1 g2 hown hK hP (zD_of hJ) hS p hw hc k hkN (hT.at hlk rfl) (fun x h => h) g3 (g1 k hkN) hn hfit hkl d (fun H1 locs1 hP1 _ hS1 => ?_)
    rw [hset] at hP1
    exact kk X H1 locs1 ls hP1 hS1 (fun h => by cases h) hl
theorem zupf (f : Nat → Int) (i : Nat) (x : Int) : upd (fun j => Int32.ofInt (f j)) i (Int32.ofInt x) = fun j => Int32.ofInt (if j = i then x else f j) := by
  funext j
  by_cases h : j = i <;> simp [upd, h]
theorem zU_iald {p N : Nat} {i v : Int} (d : decode cc pc = .ok (.iaload, 1)) (hp : p < zN) (hk : zK p = .inl (0, N)) (hN : N ≤ 2147483647) (hi : 0 ≤ i ∧ i < N) (hv : μ p i.toNat = v)
    (kk : zU Γ cc own nL rt hh R k0 s0 Fn b n μ (pc + 1) L (zi v :: st)) : zU Γ cc own nL rt hh R k0 s0 Fn b n μ pc L (zi i :: zp p :: st) := by
  obtain ⟨p', l, e, s, m, args, below, meth, c, D, cA, ad⟩ := Γ
  intro X H locs ls hP hS hb hl
  obtain ⟨hx1, hb1, -, -, -, -, hown, hT, hK, hJ, -⟩ := id X
  have hw := zW_get (cA := cA) (ad := ad) (μ := μ) hp
  simp only [zce, hk] at hw
  obtain ⟨h1, h2⟩ := zin hi hN
  refine va_iald hx1 hb1 hK hP p 0 hw rfl h1 d ?_
  rw [h2, hv]
  exact kk X H locs ls hP hS hb hl
theorem zU_zald {p N : Nat} {i v : Int} (d : decode cc pc = .ok (.baload, 1)) (hp : p < zN) (hk : zK p = .inl (1, N)) (hN : N ≤ 2147483647) (hi : 0 ≤ i ∧ i < N) (hv : μ p i.toNat = v)
    (kk : zU Γ cc own nL rt hh R k0 s0 Fn b n μ (pc + 1) L (zi v :: st)) : zU Γ cc own nL rt hh R k0 s0 Fn b n μ pc L (zi i :: zp p :: st) := by
  obtain ⟨p', l, e, s, m, args, below, meth, c, D, cA, ad⟩ := Γ
  intro X H locs ls hP hS hb hl
  obtain ⟨hx1, hb1, -, -, -, -, hown, hT, hK, hJ, -⟩ := id X
  have hw := zW_get (cA := cA) (ad := ad) (μ := μ) hp
  simp only [zce, hk] at hw
  obtain ⟨h1, h2⟩ := zin hi hN
  refine va_zald hx1 hb1 hK hP p 1 hw rfl h1 d ?_
  rw [h2, hv]
  exact kk X H locs ls hP hS hb hl
theorem zU_lald {p N : Nat} {i v : Int} (d : decode cc pc = .ok (.laload, 1)) (hp : p < zN) (hk : zK p = .inl (2, N)) (hN : N ≤ 2147483647) (hi : 0 ≤ i ∧ i < N) (hv : μ p i.toNat = v)
    (kk : zU Γ cc own nL rt hh R k0 s0 Fn b n μ (pc + 1) L (zl v :: st)) : zU Γ cc own nL rt hh R k0 s0 Fn b n μ pc L (zi i :: zp p :: st) := by
  obtain ⟨p', l, e, s, m, args, below, meth, c, D, cA, ad⟩ := Γ
  intro X H locs ls hP hS hb hl
  obtain ⟨hx1, hb1, -, -, -, -, hown, hT, hK, hJ, -⟩ := id X
  have hw := zW_get (cA := cA) (ad := ad) (μ := μ) hp
  simp only [zce, hk] at hw
  obtain ⟨h1, h2⟩ := zin hi hN
  refine va_lald hx1 hb1 hK hP p 2 hw rfl h1 d ?_
  rw [h2, hv]
  exact kk X H locs ls hP hS hb hl
theorem zU_aald {p N : Nat} {i : Int} (q : Nat) (d : decode cc pc = .ok (.aaload, 1)) (hp : p < zN) (hk : zK p = .inl (3, N)) (hN : N ≤ 2147483647) (hi : 0 ≤ i ∧ i < N) (hq : zR p i.toNat = q)
    (kk : zU Γ cc own nL rt hh R k0 s0 Fn b n μ (pc + 1) L (zp q :: st)) : zU Γ cc own nL rt hh R k0 s0 Fn b n μ pc L (zi i :: zp p :: st) := by
  obtain ⟨p', l, e, s, m, args, below, meth, c, D, cA, ad⟩ := Γ
  intro X H locs ls hP hS hb hl
  obtain ⟨hx1, hb1, -, -, -, -, hown, hT, hK, hJ, -⟩ := id X
  have hw := zW_get (cA := cA) (ad := ad) (μ := μ) hp
  simp only [zce, hk] at hw
  obtain ⟨h1, h2⟩ := zin hi hN
  refine va_aldq hx1 hb1 hK hP p 3 hw rfl h1 d ?_
  rw [h2, hq]
  exact kk X H locs ls hP hS hb hl
theorem zU_iast {p N : Nat} {i x : Int} (d : decode cc pc = .ok (.iastore, 1)) (hp : p < zN) (hk : zK p = .inl (0, N)) (hN : N ≤ 2147483647) (hi : 0 ≤ i ∧ i < N)
    (kk : zU Γ cc own nL rt hh R k0 s0 Fn false n (zup μ p i.toNat x) (pc + 1) L st) : zU Γ cc own nL rt hh R k0 s0 Fn b n μ pc L (zi x :: zi i :: zp p :: st) := by
  obtain ⟨p', l, e, s, m, args, below, meth, c, D, cA, ad⟩ := Γ
  intro X H locs ls hP hS hb hl
  obtain ⟨hx1, hb1, -, -, -, -, hown, hT, hK, hJ, -⟩ := id X
  have hw := zW_get (cA := cA) (ad := ad) (μ := μ) hp
  simp only [zce, hk] at hw
  obtain ⟨h1, h2⟩ := zin hi hN
  refine va_iast (x := Int32.ofInt x) hx1 hb1 hK hP (zD_of hJ) hS p 0 hw rfl h1 d (fun H1 locs1 hP1 _ hS1 => ?_)
  rw [h2, zupf] at hP1
  have hset := zW_set (cA := cA) (ad := ad) (μ := μ) (μ' := zup μ p i.toNat x) (p := p) (fun q hq => zup_ne μ _ x hq)
  simp only [zce, hk, zup_self] at hset
  rw [hset] at hP1
  exact kk X H1 locs1 ls hP1 hS1 (fun h => by cases h) hl
theorem zU_zast {p N : Nat} {i x : Int} (d : decode cc pc = .ok (.bastore, 1)) (hp : p < zN) (hk : zK p = .inl (1, N)) (hN : N ≤ 2147483647) (hi : 0 ≤ i ∧ i < N) (hx : x = 0 ∨ x = 1)
    (kk : zU Γ cc own nL rt hh R k0 s0 Fn false n (zup μ p i.toNat x) (pc + 1) L st) : zU Γ cc own nL rt hh R k0 s0 Fn b n μ pc L (zi x :: zi i :: zp p :: st) := by
  obtain ⟨p', l, e, s, m, args, below, meth, c, D, cA, ad⟩ := Γ
  intro X H locs ls hP hS hb hl
  obtain ⟨hx1, hb1, -, -, -, -, hown, hT, hK, hJ, -⟩ := id X
  have hw := zW_get (cA := cA) (ad := ad) (μ := μ) hp
  simp only [zce, hk] at hw
  obtain ⟨h1, h2⟩ := zin hi hN
  have h3 : vp_nar .boolean (Int32.ofInt x) = Int32.ofInt x := by
    rcases hx with rfl | rfl <;> rfl
  refine va_zast (x := Int32.ofInt x) hx1 hb1 hK hP (zD_of hJ) hS p 1 hw rfl h1 d (fun H1 locs1 hP1 _ hS1 => ?_)
  rw [h2, h3, zupf] at hP1
  have hset := zW_set (cA := cA) (ad := ad) (μ := μ) (μ' := zup μ p i.toNat x) (p := p) (fun q hq => zup_ne μ _ x hq)
  simp only [zce, hk, zup_self] at hset
  rw [hset] at hP1
  exact kk X H1 locs1 ls hP1 hS1 (fun h => by cases h) hl
theorem zU_last {p N : Nat} {i x : Int} (d : decode cc pc = .ok (.lastore, 1)) (hp : p < zN) (hk : zK p = .inl (2, N)) (hN : N ≤ 2147483647) (hi : 0 ≤ i ∧ i < N)
    (kk : zU Γ cc own nL rt hh R k0 s0 Fn false n (zup μ p i.toNat x) (pc + 1) L st) : zU Γ cc own nL rt hh R k0 s0 Fn b n μ pc L (zl x :: zi i :: zp p :: st) := by
  obtain ⟨p', l, e, s, m, args, below, meth, c, D, cA, ad⟩ := Γ
  intro X H locs ls hP hS hb hl
  obtain ⟨hx1, hb1, -, -, -, -, hown, hT, hK, hJ, -⟩ := id X
  have hw := zW_get (cA := cA) (ad := ad) (μ := μ) hp
  simp only [zce, hk] at hw
  obtain ⟨h1, h2⟩ := zin hi hN
  refine va_last (x := Int64.ofInt x) hx1 hb1 hK hP (zD_of hJ) hS p 2 hw rfl h1 d (fun H1 locs1 hP1 _ hS1 => ?_)
  have h4 : vp_updL (fun j => Int64.ofInt (μ p j)) i.toNat (Int64.ofInt x) = fun j => Int64.ofInt (if j = i.toNat then x else μ p j) := by
    funext j
    by_cases h : j = i.toNat <;> simp [vp_updL, h]
  rw [h2, h4] at hP1
  have hset := zW_set (cA := cA) (ad := ad) (μ := μ) (μ' := zup μ p i.toNat x) (p := p) (fun q hq => zup_ne μ _ x hq)
  simp only [zce, hk, zup_self] at hset
  rw [hset] at hP1
  exact kk X H1 locs1 ls hP1 hS1 (fun h => by cases h) hl
/-! ends -/
theorem zEnd_of {p : Program} {l : Launch} {e : Env} {s : State} {m : MethodId} {args : Array Value} {below : List Frame} {meth : Method} {c : Code} {D : va_G} {cA : Nat → ClassId} {ad : Nat → Nat} {t : State}
    (h : MQ below (fun _ s' o t => s'.WarmedH t.vm ∧ va_F (zA ad s'.heap.size) s' t ∧ ∃ po μ', zOut ad s' t po o ∧ va_P D zcl (zW cA ad μ') t.heap ∧ Q po μ') args s nb (6 * nb) (fun q => pb = false ∧ zA ad s.heap.size q) t) :
    zFin (p, l, e, s, m, args, below, meth, c, D, cA, ad) nb pb Q t := by
  obtain ⟨o, h1, h2, h3, Lc, h4, h5⟩ := h
  exact ⟨o, h1, h2, h3, Lc, h4.2.2, h5⟩
theorem zU_ireturn {x : Int} (d : decode cc pc = .ok (.ireturn, 1)) (hr : rt = some .int ∨ (rt = some .boolean ∧ (x = 0 ∨ x = 1))) (hpb : pb = true → b = true) (hn : n ≤ nb) (hq : Q (.inl (some (zi x))) μ) :
    zU Γ cc own nL rt hh (zRm fr nb lo) 0 0 (zFin Γ nb pb Q) b n μ pc L [zi x] := by
  obtain ⟨p', l, e, s, m, args, below, meth, c, D, cA, ad⟩ := Γ
  intro X H locs ls hP hS hb hl
  obtain ⟨hx1, hb1, -, hrt, hlk, -, hown, hT, hK, hJ, -⟩ := id X
  refine W.widen (k := nb) (n := 6 * nb) (by omega) (by omega) ?_
  refine zmono (fun t ht => zEnd_of ht) ?_
  have hfree : ∀ q ∈ locs, pb = false ∧ zA ad s.heap.size q.base := by
    intro q hq'
    refine ⟨?_, hS.2.2 q hq'⟩
    cases hp : pb with
    | false => rfl
    | true =>
      rw [(hb (hpb hp)).1] at hq'
      cases hq'
  have hend : ∀ t : State, t.heap = H → s.WarmedH t.vm → s.WarmedH t.vm ∧ va_F (zA ad s.heap.size) s t ∧ ∃ po μ', zOut ad s t po (.returned (some (.int (Int32.ofInt x)))) ∧ va_P D zcl (zW cA ad μ') t.heap ∧ Q po μ' := fun t ht hW =>
    ⟨hW, hS.F ht, .inl (some (zi x)), μ, rfl, by rw [ht]; exact hP, hq⟩
  rcases hr with h | ⟨h, hx⟩
  · exact W.iret hx1 hb1 (by rw [hrt, h]) hend hfree d hlk
  · exact W.zret (ty := .boolean) hx1 hb1 (by rw [hrt, h]) (by rcases hx with rfl | rfl <;> rfl) hend hfree d hlk
theorem zU_return (d : decode cc pc = .ok (.return_, 1)) (hr : rt = none) (hpb : pb = true → b = true) (hn : n ≤ nb) (hq : Q (.inl none) μ) :
    zU Γ cc own nL rt hh (zRm fr nb lo) 0 0 (zFin Γ nb pb Q) b n μ pc L [] := by
  obtain ⟨p', l, e, s, m, args, below, meth, c, D, cA, ad⟩ := Γ
  intro X H locs ls hP hS hb hl
  obtain ⟨hx1, hb1, -, hrt, hlk, -, hown, hT, hK, hJ, -⟩ := id X
  refine W.widen (k := nb) (n := 6 * nb) (by omega) (by omega) ?_
  refine zmono (fun t ht => zEnd_of ht) ?_
  have hfree : ∀ q ∈ locs, pb = false ∧ zA ad s.heap.size q.base := by
    intro q hq'
    refine ⟨?_, hS.2.2 q hq'⟩
    cases hp : pb with
    | false => rfl
    | true =>
      rw [(hb (hpb hp)).1] at hq'
      cases hq'
  exact W.vret hx1 hb1 (by rw [hrt, hr]) (fun t ht hW => ⟨hW, hS.F ht, .inl none, μ, rfl, by rw [ht]; exact hP, hq⟩) hfree d hlk
end ZF
