def zAo : String := "SafeControl$Automaton"
def zN : Nat := 77
def zKt : List ((Nat × Nat) ⊕ Nat) := [.inr 6, .inr 0, .inl (3, 4), .inr 1, .inl (0, 6), .inl (0, 72), .inr 1, .inl (0, 6), .inl (0, 72), .inr 1, .inl (0, 6), .inl (0, 72), .inr 1, .inl (0, 6), .inl (0, 72), .inr 2, .inl (0, 4096), .inl (0, 201), .inl (1, 201), .inl (1, 201), .inl (0, 201), .inl (0, 201), .inl (0, 2412), .inl (0, 201), .inl (0, 2412), .inl (0, 201), .inr 5, .inl (0, 201), .inl (0, 201), .inl (0, 201), .inr 3, .inl (0, 201), .inl (0, 201), .inr 4, .inl (0, 201), .inl (0, 201), .inl (0, 201), .inl (0, 201), .inl (0, 2412), .inr 4, .inl (0, 201), .inl (0, 201), .inl (0, 201), .inl (0, 201), .inl (0, 2412), .inr 4, .inl (0, 201), .inl (0, 201), .inl (0, 201), .inl (0, 201), .inl (0, 2412), .inr 7, .inl (0, 4), .inl (1, 4), .inl (0, 4), .inl (1, 24), .inl (1, 24), .inl (0, 288), .inl (1, 12), .inl (1, 12), .inl (0, 3), .inl (0, 600), .inl (0, 7200), .inl (1, 7200), .inl (1, 600), .inl (1, 600), .inl (1, 600), .inl (0, 200), .inl (0, 200), .inl (0, 200), .inl (0, 200), .inl (0, 200), .inl (0, 200), .inl (0, 200), .inl (0, 200), .inl (0, 200), .inl (2, 1)]
def zK (p : Nat) : (Nat × Nat) ⊕ Nat := zKt.getD p (.inr 99)
def zFt : List Nat := [4, 8, 11, 3, 9, 5, 8, 32]
def zF (c : Nat) : Nat := zFt.getD c 0
def zIt : List (List Bool) := [[true, false, false, false], [false, false, false, false, false, false, true, true], [false, true, true, true, true, true, true, true, true, true, true], [true, true, true], [false, false, false, false, true, true, true, true, true], [true, true, true, true, true], [true, true, true, true, true, true, false, false], [false, false, true, true, true, true, true, true, true, true, true, true, true, true, true, true, true, false, false, true, true, true, true, true, true, false, false, true, false, false, true, true]]
def zI (c k : Nat) : Bool := (zIt.getD c []).getD k false
def zRt : List (List Nat) := [[1, 26, 30, 33, 39, 45, 0, 0], [2, 0, 0, 0], [3, 6, 9, 12], [0, 0, 0, 0, 0, 0, 4, 5], [], [], [0, 0, 0, 0, 0, 0, 7, 8], [], [], [0, 0, 0, 0, 0, 0, 10, 11], [], [], [0, 0, 0, 0, 0, 0, 13, 14], [], [], [0, 16, 17, 18, 19, 20, 21, 22, 23, 24, 25], [], [], [], [], [], [], [], [], [], [], [1, 15, 27, 28, 29], [], [], [], [15, 31, 32], [], [], [0, 0, 0, 0, 34, 35, 36, 37, 38], [], [], [], [], [], [0, 0, 0, 0, 40, 41, 42, 43, 44], [], [], [], [], [], [0, 0, 0, 0, 46, 47, 48, 49, 50], [], [], [], [], [], [0, 0, 52, 53, 54, 55, 56, 57, 58, 59, 60, 61, 62, 63, 64, 65, 66, 0, 0, 67, 68, 69, 70, 71, 72, 0, 0, 73, 0, 0, 74, 75], [], [], [], [], [], [], [], [], [], [], [], [], [], [], [], [], [], [], [], [], [], [], [], [], []]
def zR (p k : Nat) : Nat := (zRt.getD p []).getD k 0
/-! the tables' words that a walk needs, and how they go over to warmer tables -/
def zok : Cond → Bool
  | .fieldLinkNest .. => true
  | .methodLinkNest .. => true
  | .castable .. => true
  | .declares _ => true
  | w => w.onTables && w.keeps
theorem zok_on {w : Cond} (h : zok w = true) : w.onTables = true := by
  cases w <;> first | rfl | (simp only [zok, Bool.and_eq_true] at h; exact h.1)
theorem zok_warm {w : Cond} (h : zok w = true) {s U : State} (hW : s.WarmedH U.vm) (hs : va_Nw w s) : va_Nw w U := by
  cases w <;> first | exact va_Nw.warmF hW hs | exact va_Nw.warmM hW hs | exact va_Nw.warmC hW hs | exact va_Nw.warmD hW hs | exact word_at hW (Or.inl h) hs
def zWS : List Cond := lw_tbl.filter zok
def zWH : List Cond := [.isRef (.static "java/lang/Throwable" "UNASSIGNED_STACK" "[Ljava/lang/StackTraceElement;"), .isRef (.static "java/lang/Throwable" "SUPPRESSED_SENTINEL" "Ljava/util/List;"), .laysStatic "java/lang/Throwable" "UNASSIGNED_STACK" "[Ljava/lang/StackTraceElement;", .laysStatic "java/lang/Throwable" "SUPPRESSED_SENTINEL" "Ljava/util/List;"]
def zEx (k : Nat) : String := match k with
  | 0 => "java/lang/IllegalArgumentException"
  | 1 => "java/lang/IllegalStateException"
  | _ => "java/lang/IndexOutOfBoundsException"
def zTb (U : State) : Prop := (∀ w ∈ zWS, va_Nw w U) ∧ (∀ w ∈ zWH, w.before #[] U = true) ∧ ∀ i j, i < 3 → j < 3 → i ≠ j → va_Nc (zEx i) (zEx j) U
theorem zTb.at {s : State} (h : zTb s) {A : Array Value} {w : Cond} (hw : w ∈ zWS) (ho : w.onTables = true) : w.before A s = true := va_Nw.use ho (h.1 w hw)
theorem zst_eval {s U : State} {c n d : String} {v : Value} (hvm : s.vm = U.vm) (hh : ∀ (q : Nat) (cell : Cell), s.heap[q]? = some cell → cell.vm.isStatics = true → U.heap[q]? = some cell)
    (h : (Term.static c n d).eval #[] s none [] s = some v) : (Term.static c n d).eval #[] U none [] U = some v := by
  have e1 : s.fieldNamed? c n d true = U.fieldNamed? c n d true := by
    simp only [State.fieldNamed?, State.fieldFound?, hvm]
  simp only [Term.eval] at h ⊢
  rw [e1] at h
  cases hf : U.fieldNamed? c n d true with
  | none => rw [hf] at h; simp at h
  | some x =>
    obtain ⟨c1, k, slot⟩ := x
    rw [hf] at h
    simp only [Option.bind_eq_bind, Option.bind_some] at h ⊢
    cases hk : k.statics with
    | none => rw [hk] at h; simp at h
    | some a =>
      rw [hk] at h
      simp only [Option.bind_some] at h ⊢
      cases hc : s.heap[a]? with
      | none => rw [hc] at h; simp at h
      | some cell =>
        rw [hc] at h
        simp only [Option.bind_some] at h
        by_cases hs : cell.vm.isStatics = true
        · rw [hh a cell hc hs]
          simpa [hs] using h
        · simp [hs] at h
theorem zst_ref {s U : State} {c n d : String} (hW : s.WarmedH U.vm) (hh : ∀ (q : Nat) (cell : Cell), s.heap[q]? = some cell → cell.vm.isStatics = true → U.heap[q]? = some cell)
    (h : (Cond.isRef (.static c n d)).before #[] s = true) : (Cond.isRef (.static c n d)).before #[] U = true := by
  have h1 : (Cond.isRef (.static c n d)).holds #[] (s.setVm U.vm) none (s.setVm U.vm) [] = true := Cond.holds_shifted (args := #[]) (o := none) (State.Shifted.of_warmed hW) (Cond.isRef (.static c n d)) [] rfl h
  simp only [Cond.before, Cond.holds, Cond.value] at h1 ⊢
  cases he : (Term.static c n d).eval #[] (s.setVm U.vm) none [] (s.setVm U.vm) with
  | none => rw [he] at h1; simp at h1
  | some v =>
    rw [zst_eval (s := s.setVm U.vm) (U := U) rfl hh he]
    rw [he] at h1
    exact h1
theorem zst_lays0 {s U : State} {c n d : String} (hvm : s.vm = U.vm) (hh : ∀ (q : Nat) (cell : Cell), s.heap[q]? = some cell → cell.vm.isStatics = true → U.heap[q]? = some cell)
    (h : (Cond.laysStatic c n d).before #[] s = true) : (Cond.laysStatic c n d).before #[] U = true := by
  have e1 : s.fieldFound? c n d = U.fieldFound? c n d := by simp only [State.fieldFound?, hvm]
  simp only [Cond.before, Cond.holds, Cond.value, hvm, e1] at h ⊢
  cases h1 : U.vm.findClass c with
  | none => simp [h1] at h
  | some c1 =>
    cases h2 : U.fieldFound? c n d with
    | none => simp [h1, h2] at h
    | some x =>
      obtain ⟨c2, k, i2, f⟩ := x
      simp only [h1, h2] at h ⊢
      cases h3 : k.statics with
      | none => simp [h3] at h
      | some a =>
        simp only [h3, Option.bind_some] at h ⊢
        cases h4 : s.heap[a]? with
        | none => simp [h4] at h
        | some cell =>
          simp only [h4, Option.map_some, beq_iff_eq, Option.some.injEq, Bool.and_eq_true, decide_eq_true_eq] at h
          have hs : cell.vm.isStatics = true := h.1.1.1.2
          rw [hh a cell h4 hs]
          simp only [Option.map_some, beq_iff_eq, Option.some.injEq, Bool.and_eq_true, decide_eq_true_eq]
          exact h
theorem zst_lays {s U : State} {c n d : String} (hW : s.WarmedH U.vm) (hh : ∀ (q : Nat) (cell : Cell), s.heap[q]? = some cell → cell.vm.isStatics = true → U.heap[q]? = some cell)
    (h : (Cond.laysStatic c n d).before #[] s = true) : (Cond.laysStatic c n d).before #[] U = true :=
  zst_lays0 (s := s.setVm U.vm) (U := U) rfl hh (Cond.holds_shifted (args := #[]) (o := none) (State.Shifted.of_warmed hW) (Cond.laysStatic c n d) [] rfl h)
theorem zst_ref0 {s U : State} {c n d : String} (hvm : s.vm = U.vm) (hh : ∀ (q : Nat) (cell : Cell), s.heap[q]? = some cell → cell.vm.isStatics = true → U.heap[q]? = some cell)
    (h : (Cond.isRef (.static c n d)).before #[] s = true) : (Cond.isRef (.static c n d)).before #[] U = true := by
  simp only [Cond.before, Cond.holds, Cond.value] at h ⊢
  cases he : (Term.static c n d).eval #[] s none [] s with
  | none => rw [he] at h; simp at h
  | some v =>
    rw [zst_eval hvm hh he]
    rw [he] at h
    exact h
theorem zTb.blind {U : State} (h : zTb U) {g : JFrame} {mk : MethodId} {a : Array Value} : zTb (U.calling g mk a) := by
  refine ⟨fun w hw => va_Nw.same (u := U) (U := U.calling g mk a) (zok_on (List.mem_filter.mp hw).2) rfl (h.1 w hw), fun w hw => ?_, fun i j hi hj hij => va_Nc.moved (u := U) (U := U.calling g mk a) (Vm.Alike.refl _) (h.2.2 i j hi hj hij)⟩
  have := h.2.1 w hw
  simp only [zWH, List.mem_cons, List.not_mem_nil, or_false] at hw
  rcases hw with rfl | rfl | rfl | rfl
  · exact zst_ref0 (s := U) rfl (fun _ _ h _ => h) this
  · exact zst_ref0 (s := U) rfl (fun _ _ h _ => h) this
  · exact zst_lays0 (s := U) rfl (fun _ _ h _ => h) this
  · exact zst_lays0 (s := U) rfl (fun _ _ h _ => h) this
