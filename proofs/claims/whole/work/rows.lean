section
-- ===== PART A: goes FIRST, ahead of the names: the tables' words, and 'selects' of the private methods out of them =====
/-- a private method of a class that the tables say can be made, by its rows of tables_1 -/
def lw_okq (q : MethodName × Nat) : Prop := (q.1.cls ≠ "java/lang/invoke/MethodHandle" ∧ q.1.cls ≠ "java/lang/invoke/VarHandle") ∧ Cond.instantiable q.1.cls q.2 ∈ tables_1 ∧ Cond.privateMethod q.1 ∈ tables_1 ∧ Cond.instanceMethod q.1 ∈ tables_1
theorem lw_p0 : lw_okq (⟨"SafeControl$Synthesis", "explore", "(I)Z"⟩, 5) := ⟨⟨by decide +kernel, by decide +kernel⟩, List.mem_of_getElem? (i := 135) (by decide +kernel), List.mem_of_getElem? (i := 276) (by decide +kernel), List.mem_of_getElem? (i := 277) (by decide +kernel)⟩
theorem lw_p1 : lw_okq (⟨"SafeControl$Graph", "add", "(II)V"⟩, 11) := ⟨⟨by decide +kernel, by decide +kernel⟩, List.mem_of_getElem? (i := 85) (by decide +kernel), List.mem_of_getElem? (i := 291) (by decide +kernel), List.mem_of_getElem? (i := 292) (by decide +kernel)⟩
theorem lw_p2 : lw_okq (⟨"SafeControl$Synthesis", "exploreFrom", "(II)Z"⟩, 5) := ⟨⟨by decide +kernel, by decide +kernel⟩, List.mem_of_getElem? (i := 135) (by decide +kernel), List.mem_of_getElem? (i := 295) (by decide +kernel), List.mem_of_getElem? (i := 296) (by decide +kernel)⟩
theorem lw_p3 : lw_okq (⟨"SafeControl$Synthesis", "keepGood", "()V"⟩, 5) := ⟨⟨by decide +kernel, by decide +kernel⟩, List.mem_of_getElem? (i := 135) (by decide +kernel), List.mem_of_getElem? (i := 335) (by decide +kernel), List.mem_of_getElem? (i := 336) (by decide +kernel)⟩
theorem lw_p4 : lw_okq (⟨"SafeControl$Synthesis", "dropUnruly", "()Z"⟩, 5) := ⟨⟨by decide +kernel, by decide +kernel⟩, List.mem_of_getElem? (i := 135) (by decide +kernel), List.mem_of_getElem? (i := 339) (by decide +kernel), List.mem_of_getElem? (i := 340) (by decide +kernel)⟩
theorem lw_p5 : lw_okq (⟨"SafeControl$Synthesis", "isUnruly", "(I)Z"⟩, 5) := ⟨⟨by decide +kernel, by decide +kernel⟩, List.mem_of_getElem? (i := 135) (by decide +kernel), List.mem_of_getElem? (i := 343) (by decide +kernel), List.mem_of_getElem? (i := 344) (by decide +kernel)⟩
theorem lw_p6 : lw_okq (⟨"SafeControl$Graph", "measureInto", "(II)I"⟩, 11) := ⟨⟨by decide +kernel, by decide +kernel⟩, List.mem_of_getElem? (i := 85) (by decide +kernel), List.mem_of_getElem? (i := 355) (by decide +kernel), List.mem_of_getElem? (i := 356) (by decide +kernel)⟩
theorem lw_p7 : lw_okq (⟨"SafeControl$Synthesis", "writeWord", "(LSafeControl$Supervisor;)V"⟩, 5) := ⟨⟨by decide +kernel, by decide +kernel⟩, List.mem_of_getElem? (i := 135) (by decide +kernel), List.mem_of_getElem? (i := 367) (by decide +kernel), List.mem_of_getElem? (i := 368) (by decide +kernel)⟩
theorem lw_p8 : lw_okq (⟨"SafeControl$Synthesis", "firstLost", "()I"⟩, 5) := ⟨⟨by decide +kernel, by decide +kernel⟩, List.mem_of_getElem? (i := 135) (by decide +kernel), List.mem_of_getElem? (i := 371) (by decide +kernel), List.mem_of_getElem? (i := 372) (by decide +kernel)⟩
theorem lw_p9 : lw_okq (⟨"SafeControl$Synthesis", "writeStates", "(LSafeControl$Supervisor;)V"⟩, 5) := ⟨⟨by decide +kernel, by decide +kernel⟩, List.mem_of_getElem? (i := 135) (by decide +kernel), List.mem_of_getElem? (i := 375) (by decide +kernel), List.mem_of_getElem? (i := 376) (by decide +kernel)⟩
theorem lw_p10 : lw_okq (⟨"SafeControl$Synthesis", "stateFor", "(ILSafeControl$Supervisor;)I"⟩, 5) := ⟨⟨by decide +kernel, by decide +kernel⟩, List.mem_of_getElem? (i := 135) (by decide +kernel), List.mem_of_getElem? (i := 379) (by decide +kernel), List.mem_of_getElem? (i := 380) (by decide +kernel)⟩
theorem lw_p11 : lw_okq (⟨"SafeControl$Synthesis", "writeState", "(ILSafeControl$Supervisor;)V"⟩, 5) := ⟨⟨by decide +kernel, by decide +kernel⟩, List.mem_of_getElem? (i := 135) (by decide +kernel), List.mem_of_getElem? (i := 383) (by decide +kernel), List.mem_of_getElem? (i := 384) (by decide +kernel)⟩
theorem lw_p12 : lw_okq (⟨"java/lang/Throwable", "fillInStackTrace", "(I)Ljava/lang/Throwable;"⟩, 6) := ⟨⟨by decide +kernel, by decide +kernel⟩, List.mem_of_getElem? (i := 434) (by decide +kernel), List.mem_of_getElem? (i := 432) (by decide +kernel), List.mem_of_getElem? (i := 433) (by decide +kernel)⟩
theorem lw_p13 : lw_okq (⟨"SafeControl$Automaton", "changeInitial", "(IZ)V"⟩, 8) := ⟨⟨by decide +kernel, by decide +kernel⟩, List.mem_of_getElem? (i := 31) (by decide +kernel), List.mem_of_getElem? (i := 539) (by decide +kernel), List.mem_of_getElem? (i := 540) (by decide +kernel)⟩
theorem lw_p14 : lw_okq (⟨"SafeControl", "requireStateAndEvent", "(II)V"⟩, 8) := ⟨⟨by decide +kernel, by decide +kernel⟩, List.mem_of_getElem? (i := 16) (by decide +kernel), List.mem_of_getElem? (i := 553) (by decide +kernel), List.mem_of_getElem? (i := 554) (by decide +kernel)⟩
theorem lw_p15 : lw_okq (⟨"SafeControl", "requireSupervisor", "()V"⟩, 8) := ⟨⟨by decide +kernel, by decide +kernel⟩, List.mem_of_getElem? (i := 16) (by decide +kernel), List.mem_of_getElem? (i := 557) (by decide +kernel), List.mem_of_getElem? (i := 558) (by decide +kernel)⟩
def lw_privs_1 : List (MethodName × Nat) := [(⟨"SafeControl$Synthesis", "explore", "(I)Z"⟩, 5), (⟨"SafeControl$Graph", "add", "(II)V"⟩, 11), (⟨"SafeControl$Synthesis", "exploreFrom", "(II)Z"⟩, 5), (⟨"SafeControl$Synthesis", "keepGood", "()V"⟩, 5), (⟨"SafeControl$Synthesis", "dropUnruly", "()Z"⟩, 5), (⟨"SafeControl$Synthesis", "isUnruly", "(I)Z"⟩, 5), (⟨"SafeControl$Graph", "measureInto", "(II)I"⟩, 11), (⟨"SafeControl$Synthesis", "writeWord", "(LSafeControl$Supervisor;)V"⟩, 5), (⟨"SafeControl$Synthesis", "firstLost", "()I"⟩, 5), (⟨"SafeControl$Synthesis", "writeStates", "(LSafeControl$Supervisor;)V"⟩, 5), (⟨"SafeControl$Synthesis", "stateFor", "(ILSafeControl$Supervisor;)I"⟩, 5), (⟨"SafeControl$Synthesis", "writeState", "(ILSafeControl$Supervisor;)V"⟩, 5), (⟨"java/lang/Throwable", "fillInStackTrace", "(I)Ljava/lang/Throwable;"⟩, 6), (⟨"SafeControl$Automaton", "changeInitial", "(IZ)V"⟩, 8), (⟨"SafeControl", "requireStateAndEvent", "(II)V"⟩, 8), (⟨"SafeControl", "requireSupervisor", "()V"⟩, 8)]
theorem lw_r1 : ∀ q ∈ lw_privs_1, lw_okq q := List.forall_mem_cons.mpr ⟨lw_p0, List.forall_mem_cons.mpr ⟨lw_p1, List.forall_mem_cons.mpr ⟨lw_p2, List.forall_mem_cons.mpr ⟨lw_p3, List.forall_mem_cons.mpr ⟨lw_p4, List.forall_mem_cons.mpr ⟨lw_p5, List.forall_mem_cons.mpr ⟨lw_p6, List.forall_mem_cons.mpr ⟨lw_p7, List.forall_mem_cons.mpr ⟨lw_p8, List.forall_mem_cons.mpr ⟨lw_p9, List.forall_mem_cons.mpr ⟨lw_p10, List.forall_mem_cons.mpr ⟨lw_p11, List.forall_mem_cons.mpr ⟨lw_p12, List.forall_mem_cons.mpr ⟨lw_p13, List.forall_mem_cons.mpr ⟨lw_p14, List.forall_mem_cons.mpr ⟨lw_p15, fun _ h => absurd h List.not_mem_nil⟩⟩⟩⟩⟩⟩⟩⟩⟩⟩⟩⟩⟩⟩⟩⟩
theorem lw_p16 : lw_okq (⟨"SafeControl", "requireState", "(I)V"⟩, 8) := ⟨⟨by decide +kernel, by decide +kernel⟩, List.mem_of_getElem? (i := 16) (by decide +kernel), List.mem_of_getElem? (i := 561) (by decide +kernel), List.mem_of_getElem? (i := 562) (by decide +kernel)⟩
theorem lw_p17 : lw_okq (⟨"SafeControl", "requireResult", "()V"⟩, 8) := ⟨⟨by decide +kernel, by decide +kernel⟩, List.mem_of_getElem? (i := 16) (by decide +kernel), List.mem_of_getElem? (i := 598) (by decide +kernel), List.mem_of_getElem? (i := 599) (by decide +kernel)⟩
theorem lw_p18 : lw_okq (⟨"SafeControl", "superviseUnder", "(ILSafeControl$Supervisor;)Z"⟩, 8) := ⟨⟨by decide +kernel, by decide +kernel⟩, List.mem_of_getElem? (i := 16) (by decide +kernel), List.mem_of_getElem? (i := 643) (by decide +kernel), List.mem_of_getElem? (i := 644) (by decide +kernel)⟩
theorem lw_p19 : lw_okq (⟨"SafeControl$Pairs", "exploreFrom", "(ILSafeControl$Supervisor;LSafeControl$Supervisor;)Z"⟩, 3) := ⟨⟨by decide +kernel, by decide +kernel⟩, List.mem_of_getElem? (i := 157) (by decide +kernel), List.mem_of_getElem? (i := 656) (by decide +kernel), List.mem_of_getElem? (i := 657) (by decide +kernel)⟩
theorem lw_p20 : lw_okq (⟨"SafeControlModel", "throwing", "(ZZ)Z"⟩, 32) := ⟨⟨by decide +kernel, by decide +kernel⟩, List.mem_of_getElem? (i := 707) (by decide +kernel), List.mem_of_getElem? (i := 821) (by decide +kernel), List.mem_of_getElem? (i := 822) (by decide +kernel)⟩
theorem lw_p21 : lw_okq (⟨"SafeControlModel", "change", "()V"⟩, 32) := ⟨⟨by decide +kernel, by decide +kernel⟩, List.mem_of_getElem? (i := 707) (by decide +kernel), List.mem_of_getElem? (i := 825) (by decide +kernel), List.mem_of_getElem? (i := 826) (by decide +kernel)⟩
theorem lw_p22 : lw_okq (⟨"SafeControlModel", "isNoState", "(II)Z"⟩, 32) := ⟨⟨by decide +kernel, by decide +kernel⟩, List.mem_of_getElem? (i := 707) (by decide +kernel), List.mem_of_getElem? (i := 837) (by decide +kernel), List.mem_of_getElem? (i := 838) (by decide +kernel)⟩
theorem lw_p23 : lw_okq (⟨"SafeControlModel", "isModel", "(I)Z"⟩, 32) := ⟨⟨by decide +kernel, by decide +kernel⟩, List.mem_of_getElem? (i := 707) (by decide +kernel), List.mem_of_getElem? (i := 853) (by decide +kernel), List.mem_of_getElem? (i := 854) (by decide +kernel)⟩
theorem lw_p24 : lw_okq (⟨"SafeControlModel", "takesPart", "(II)Z"⟩, 32) := ⟨⟨by decide +kernel, by decide +kernel⟩, List.mem_of_getElem? (i := 707) (by decide +kernel), List.mem_of_getElem? (i := 857) (by decide +kernel), List.mem_of_getElem? (i := 858) (by decide +kernel)⟩
theorem lw_p25 : lw_okq (⟨"SafeControlModel", "explore", "(II)Z"⟩, 32) := ⟨⟨by decide +kernel, by decide +kernel⟩, List.mem_of_getElem? (i := 707) (by decide +kernel), List.mem_of_getElem? (i := 861) (by decide +kernel), List.mem_of_getElem? (i := 862) (by decide +kernel)⟩
theorem lw_p26 : lw_okq (⟨"SafeControlModel", "placeOf", "(II)I"⟩, 32) := ⟨⟨by decide +kernel, by decide +kernel⟩, List.mem_of_getElem? (i := 707) (by decide +kernel), List.mem_of_getElem? (i := 865) (by decide +kernel), List.mem_of_getElem? (i := 866) (by decide +kernel)⟩
theorem lw_p27 : lw_okq (⟨"SafeControlModel", "after", "(III)I"⟩, 32) := ⟨⟨by decide +kernel, by decide +kernel⟩, List.mem_of_getElem? (i := 707) (by decide +kernel), List.mem_of_getElem? (i := 872) (by decide +kernel), List.mem_of_getElem? (i := 873) (by decide +kernel)⟩
theorem lw_p28 : lw_okq (⟨"SafeControlModel", "has", "(II)Z"⟩, 32) := ⟨⟨by decide +kernel, by decide +kernel⟩, List.mem_of_getElem? (i := 707) (by decide +kernel), List.mem_of_getElem? (i := 876) (by decide +kernel), List.mem_of_getElem? (i := 877) (by decide +kernel)⟩
theorem lw_p29 : lw_okq (⟨"SafeControlModel", "settle", "(I)V"⟩, 32) := ⟨⟨by decide +kernel, by decide +kernel⟩, List.mem_of_getElem? (i := 707) (by decide +kernel), List.mem_of_getElem? (i := 880) (by decide +kernel), List.mem_of_getElem? (i := 881) (by decide +kernel)⟩
theorem lw_p30 : lw_okq (⟨"SafeControlModel", "takesOut", "(I)Z"⟩, 32) := ⟨⟨by decide +kernel, by decide +kernel⟩, List.mem_of_getElem? (i := 707) (by decide +kernel), List.mem_of_getElem? (i := 884) (by decide +kernel), List.mem_of_getElem? (i := 885) (by decide +kernel)⟩
theorem lw_p31 : lw_okq (⟨"SafeControlModel", "keep", "(I)V"⟩, 32) := ⟨⟨by decide +kernel, by decide +kernel⟩, List.mem_of_getElem? (i := 707) (by decide +kernel), List.mem_of_getElem? (i := 888) (by decide +kernel), List.mem_of_getElem? (i := 889) (by decide +kernel)⟩
def lw_privs_2 : List (MethodName × Nat) := [(⟨"SafeControl", "requireState", "(I)V"⟩, 8), (⟨"SafeControl", "requireResult", "()V"⟩, 8), (⟨"SafeControl", "superviseUnder", "(ILSafeControl$Supervisor;)Z"⟩, 8), (⟨"SafeControl$Pairs", "exploreFrom", "(ILSafeControl$Supervisor;LSafeControl$Supervisor;)Z"⟩, 3), (⟨"SafeControlModel", "throwing", "(ZZ)Z"⟩, 32), (⟨"SafeControlModel", "change", "()V"⟩, 32), (⟨"SafeControlModel", "isNoState", "(II)Z"⟩, 32), (⟨"SafeControlModel", "isModel", "(I)Z"⟩, 32), (⟨"SafeControlModel", "takesPart", "(II)Z"⟩, 32), (⟨"SafeControlModel", "explore", "(II)Z"⟩, 32), (⟨"SafeControlModel", "placeOf", "(II)I"⟩, 32), (⟨"SafeControlModel", "after", "(III)I"⟩, 32), (⟨"SafeControlModel", "has", "(II)Z"⟩, 32), (⟨"SafeControlModel", "settle", "(I)V"⟩, 32), (⟨"SafeControlModel", "takesOut", "(I)Z"⟩, 32), (⟨"SafeControlModel", "keep", "(I)V"⟩, 32)]
theorem lw_r2 : ∀ q ∈ lw_privs_2, lw_okq q := List.forall_mem_cons.mpr ⟨lw_p16, List.forall_mem_cons.mpr ⟨lw_p17, List.forall_mem_cons.mpr ⟨lw_p18, List.forall_mem_cons.mpr ⟨lw_p19, List.forall_mem_cons.mpr ⟨lw_p20, List.forall_mem_cons.mpr ⟨lw_p21, List.forall_mem_cons.mpr ⟨lw_p22, List.forall_mem_cons.mpr ⟨lw_p23, List.forall_mem_cons.mpr ⟨lw_p24, List.forall_mem_cons.mpr ⟨lw_p25, List.forall_mem_cons.mpr ⟨lw_p26, List.forall_mem_cons.mpr ⟨lw_p27, List.forall_mem_cons.mpr ⟨lw_p28, List.forall_mem_cons.mpr ⟨lw_p29, List.forall_mem_cons.mpr ⟨lw_p30, List.forall_mem_cons.mpr ⟨lw_p31, fun _ h => absurd h List.not_mem_nil⟩⟩⟩⟩⟩⟩⟩⟩⟩⟩⟩⟩⟩⟩⟩⟩
theorem lw_p32 : lw_okq (⟨"SafeControlModel", "search", "(IZ)I"⟩, 32) := ⟨⟨by decide +kernel, by decide +kernel⟩, List.mem_of_getElem? (i := 707) (by decide +kernel), List.mem_of_getElem? (i := 892) (by decide +kernel), List.mem_of_getElem? (i := 893) (by decide +kernel)⟩
theorem lw_p33 : lw_okq (⟨"SafeControlModel", "good", "(III)I"⟩, 32) := ⟨⟨by decide +kernel, by decide +kernel⟩, List.mem_of_getElem? (i := 707) (by decide +kernel), List.mem_of_getElem? (i := 896) (by decide +kernel), List.mem_of_getElem? (i := 897) (by decide +kernel)⟩
theorem lw_p34 : lw_okq (⟨"SafeControlModel", "refuses", "(II)Z"⟩, 32) := ⟨⟨by decide +kernel, by decide +kernel⟩, List.mem_of_getElem? (i := 707) (by decide +kernel), List.mem_of_getElem? (i := 904) (by decide +kernel), List.mem_of_getElem? (i := 905) (by decide +kernel)⟩
theorem lw_p35 : lw_okq (⟨"SafeControlModel", "isRule", "(I)Z"⟩, 32) := ⟨⟨by decide +kernel, by decide +kernel⟩, List.mem_of_getElem? (i := 707) (by decide +kernel), List.mem_of_getElem? (i := 932) (by decide +kernel), List.mem_of_getElem? (i := 933) (by decide +kernel)⟩
theorem lw_p36 : lw_okq (⟨"SafeControlModel", "isThere", "(II)Z"⟩, 32) := ⟨⟨by decide +kernel, by decide +kernel⟩, List.mem_of_getElem? (i := 707) (by decide +kernel), List.mem_of_getElem? (i := 936) (by decide +kernel), List.mem_of_getElem? (i := 937) (by decide +kernel)⟩
theorem lw_p37 : lw_okq (⟨"SafeControlModel", "couple", "(II)I"⟩, 32) := ⟨⟨by decide +kernel, by decide +kernel⟩, List.mem_of_getElem? (i := 707) (by decide +kernel), List.mem_of_getElem? (i := 940) (by decide +kernel), List.mem_of_getElem? (i := 941) (by decide +kernel)⟩
theorem lw_p38 : lw_okq (⟨"SafeControlModel", "comesHome", "(I)Z"⟩, 32) := ⟨⟨by decide +kernel, by decide +kernel⟩, List.mem_of_getElem? (i := 707) (by decide +kernel), List.mem_of_getElem? (i := 944) (by decide +kernel), List.mem_of_getElem? (i := 945) (by decide +kernel)⟩
def lw_privs_3 : List (MethodName × Nat) := [(⟨"SafeControlModel", "search", "(IZ)I"⟩, 32), (⟨"SafeControlModel", "good", "(III)I"⟩, 32), (⟨"SafeControlModel", "refuses", "(II)Z"⟩, 32), (⟨"SafeControlModel", "isRule", "(I)Z"⟩, 32), (⟨"SafeControlModel", "isThere", "(II)Z"⟩, 32), (⟨"SafeControlModel", "couple", "(II)I"⟩, 32), (⟨"SafeControlModel", "comesHome", "(I)Z"⟩, 32)]
theorem lw_r3 : ∀ q ∈ lw_privs_3, lw_okq q := List.forall_mem_cons.mpr ⟨lw_p32, List.forall_mem_cons.mpr ⟨lw_p33, List.forall_mem_cons.mpr ⟨lw_p34, List.forall_mem_cons.mpr ⟨lw_p35, List.forall_mem_cons.mpr ⟨lw_p36, List.forall_mem_cons.mpr ⟨lw_p37, List.forall_mem_cons.mpr ⟨lw_p38, fun _ h => absurd h List.not_mem_nil⟩⟩⟩⟩⟩⟩⟩
def lw_privs : List (MethodName × Nat) := lw_privs_1 ++ (lw_privs_2 ++ (lw_privs_3))
def lw_tbl : List Cond := k2_sels lw_privs ++ tables_1
theorem lw_privs_ok : ∀ q ∈ lw_privs, lw_okq q := by
  show ∀ q ∈ lw_privs_1 ++ (lw_privs_2 ++ (lw_privs_3)), lw_okq q
  exact List.forall_mem_append.mpr ⟨lw_r1, List.forall_mem_append.mpr ⟨lw_r2, lw_r3⟩⟩
end
section
def n_A : String := "SafeControl$Automata"
def T_A : u_T := fun k => match k with
  | 0 => (n_A, "all", "[LSafeControl$Automaton;", true)
  | 1 => (n_A, "count", "I", false)
  | 2 => (n_A, "declaredEvents", "I", false)
  | _ => (n_A, "controllableEvents", "I", false)
def t_A : Nat → FieldType := fun k => match k with
  | 0 => .array (.object "SafeControl$Automaton")
  | 1 => .int
  | 2 => .int
  | _ => .int
theorem nm_A : ∀ a, a < 4 → ∀ b, b < 4 → a ≠ b → (T_A a).2.1 ≠ (T_A b).2.1 := by decide +kernel
theorem t_A_ok : ∀ k, k < 4 → parseFieldDescriptor (T_A k).2.2.1 = some (t_A k) := by decide +kernel
def n_M : String := "SafeControl$Automaton"
def T_M : u_T := fun k => match k with
  | 0 => (n_M, "states", "I", false)
  | 1 => (n_M, "kind", "I", false)
  | 2 => (n_M, "initial", "I", false)
  | 3 => (n_M, "markedStates", "I", false)
  | 4 => (n_M, "forbiddenStates", "I", false)
  | 5 => (n_M, "events", "I", false)
  | 6 => (n_M, "eventsFrom", "[I", true)
  | _ => (n_M, "targets", "[I", true)
def t_M : Nat → FieldType := fun k => match k with
  | 0 => .int
  | 1 => .int
  | 2 => .int
  | 3 => .int
  | 4 => .int
  | 5 => .int
  | 6 => .array .int
  | _ => .array .int
theorem nm_M : ∀ a, a < 8 → ∀ b, b < 8 → a ≠ b → (T_M a).2.1 ≠ (T_M b).2.1 := by decide +kernel
theorem t_M_ok : ∀ k, k < 8 → parseFieldDescriptor (T_M k).2.2.1 = some (t_M k) := by decide +kernel
def n_G : String := "SafeControl$Graph"
def T_G : u_T := fun k => match k with
  | 0 => (n_G, "count", "I", false)
  | 1 => (n_G, "numberOfCode", "[I", true)
  | 2 => (n_G, "code", "[I", true)
  | 3 => (n_G, "marked", "[Z", true)
  | 4 => (n_G, "kept", "[Z", true)
  | 5 => (n_G, "toMarked", "[I", true)
  | 6 => (n_G, "foundBy", "[I", true)
  | 7 => (n_G, "target", "[I", true)
  | 8 => (n_G, "lastInto", "[I", true)
  | 9 => (n_G, "beforeInto", "[I", true)
  | _ => (n_G, "queue", "[I", true)
def t_G : Nat → FieldType := fun k => match k with
  | 0 => .int
  | 1 => .array .int
  | 2 => .array .int
  | 3 => .array .boolean
  | 4 => .array .boolean
  | 5 => .array .int
  | 6 => .array .int
  | 7 => .array .int
  | 8 => .array .int
  | 9 => .array .int
  | _ => .array .int
theorem nm_G : ∀ a, a < 11 → ∀ b, b < 11 → a ≠ b → (T_G a).2.1 ≠ (T_G b).2.1 := by decide +kernel
theorem t_G_ok : ∀ k, k < 11 → parseFieldDescriptor (T_G k).2.2.1 = some (t_G k) := by decide +kernel
def n_P : String := "SafeControl$Pairs"
def T_P : u_T := fun k => match k with
  | 0 => (n_P, "graph", "LSafeControl$Graph;", true)
  | 1 => (n_P, "stateOfA", "[I", true)
  | _ => (n_P, "stateOfB", "[I", true)
def t_P : Nat → FieldType := fun k => match k with
  | 0 => .object "SafeControl$Graph"
  | 1 => .array .int
  | _ => .array .int
theorem nm_P : ∀ a, a < 3 → ∀ b, b < 3 → a ≠ b → (T_P a).2.1 ≠ (T_P b).2.1 := by decide +kernel
theorem t_P_ok : ∀ k, k < 3 → parseFieldDescriptor (T_P k).2.2.1 = some (t_P k) := by decide +kernel
def n_S : String := "SafeControl$Supervisor"
def T_S : u_T := fun k => match k with
  | 0 => (n_S, "count", "I", false)
  | 1 => (n_S, "reached", "I", false)
  | 2 => (n_S, "good", "I", false)
  | 3 => (n_S, "wordLength", "I", false)
  | 4 => (n_S, "wordBackwards", "[I", true)
  | 5 => (n_S, "code", "[I", true)
  | 6 => (n_S, "eventsOfPlants", "[I", true)
  | 7 => (n_S, "toMarked", "[I", true)
  | _ => (n_S, "targets", "[I", true)
def t_S : Nat → FieldType := fun k => match k with
  | 0 => .int
  | 1 => .int
  | 2 => .int
  | 3 => .int
  | 4 => .array .int
  | 5 => .array .int
  | 6 => .array .int
  | 7 => .array .int
  | _ => .array .int
theorem nm_S : ∀ a, a < 9 → ∀ b, b < 9 → a ≠ b → (T_S a).2.1 ≠ (T_S b).2.1 := by decide +kernel
theorem t_S_ok : ∀ k, k < 9 → parseFieldDescriptor (T_S k).2.2.1 = some (t_S k) := by decide +kernel
def n_Y : String := "SafeControl$Synthesis"
def T_Y : u_T := fun k => match k with
  | 0 => (n_Y, "automata", "LSafeControl$Automata;", true)
  | 1 => (n_Y, "graph", "LSafeControl$Graph;", true)
  | 2 => (n_Y, "eventsOfPlants", "[I", true)
  | 3 => (n_Y, "stateOfNode", "[I", true)
  | _ => (n_Y, "nodeOfState", "[I", true)
def t_Y : Nat → FieldType := fun k => match k with
  | 0 => .object "SafeControl$Automata"
  | 1 => .object "SafeControl$Graph"
  | 2 => .array .int
  | 3 => .array .int
  | _ => .array .int
theorem nm_Y : ∀ a, a < 5 → ∀ b, b < 5 → a ≠ b → (T_Y a).2.1 ≠ (T_Y b).2.1 := by decide +kernel
theorem t_Y_ok : ∀ k, k < 5 → parseFieldDescriptor (T_Y k).2.2.1 = some (t_Y k) := by decide +kernel
def n_C : String := "SafeControl"
def T_C : u_T := fun k => match k with
  | 0 => (n_C, "automata", "LSafeControl$Automata;", true)
  | 1 => (n_C, "synthesis", "LSafeControl$Synthesis;", true)
  | 2 => (n_C, "pairs", "LSafeControl$Pairs;", true)
  | 3 => (n_C, "result", "LSafeControl$Supervisor;", true)
  | 4 => (n_C, "underRuleA", "LSafeControl$Supervisor;", true)
  | 5 => (n_C, "underRuleB", "LSafeControl$Supervisor;", true)
  | 6 => (n_C, "resultStands", "Z", false)
  | _ => (n_C, "place", "I", false)
def t_C : Nat → FieldType := fun k => match k with
  | 0 => .object "SafeControl$Automata"
  | 1 => .object "SafeControl$Synthesis"
  | 2 => .object "SafeControl$Pairs"
  | 3 => .object "SafeControl$Supervisor"
  | 4 => .object "SafeControl$Supervisor"
  | 5 => .object "SafeControl$Supervisor"
  | 6 => .boolean
  | _ => .int
theorem nm_C : ∀ a, a < 8 → ∀ b, b < 8 → a ≠ b → (T_C a).2.1 ≠ (T_C b).2.1 := by decide +kernel
theorem t_C_ok : ∀ k, k < 8 → parseFieldDescriptor (T_C k).2.2.1 = some (t_C k) := by decide +kernel
def n_R : String := "SafeControlModel"
def T_R : u_T := fun k => match k with
  | 0 => (n_R, "thrown", "I", false)
  | 1 => (n_R, "count", "I", false)
  | 2 => (n_R, "states", "[I", true)
  | 3 => (n_R, "plant", "[Z", true)
  | 4 => (n_R, "initial", "[I", true)
  | 5 => (n_R, "marked", "[Z", true)
  | 6 => (n_R, "forbidden", "[Z", true)
  | 7 => (n_R, "edges", "[I", true)
  | 8 => (n_R, "declared", "[Z", true)
  | 9 => (n_R, "held", "[Z", true)
  | 10 => (n_R, "size", "[I", true)
  | 11 => (n_R, "what", "[I", true)
  | 12 => (n_R, "next", "[I", true)
  | 13 => (n_R, "may", "[Z", true)
  | 14 => (n_R, "goal", "[Z", true)
  | 15 => (n_R, "bad", "[Z", true)
  | 16 => (n_R, "reaches", "[Z", true)
  | 17 => (n_R, "result", "Z", false)
  | 18 => (n_R, "kept", "I", false)
  | 19 => (n_R, "order", "[I", true)
  | 20 => (n_R, "number", "[I", true)
  | 21 => (n_R, "before", "[I", true)
  | 22 => (n_R, "by", "[I", true)
  | 23 => (n_R, "far", "[I", true)
  | 24 => (n_R, "queue", "[I", true)
  | 25 => (n_R, "found", "I", false)
  | 26 => (n_R, "length", "I", false)
  | 27 => (n_R, "word", "[I", true)
  | 28 => (n_R, "here", "I", false)
  | 29 => (n_R, "pairs", "I", false)
  | 30 => (n_R, "one", "[I", true)
  | _ => (n_R, "other", "[I", true)
def t_R : Nat → FieldType := fun k => match k with
  | 0 => .int
  | 1 => .int
  | 2 => .array .int
  | 3 => .array .boolean
  | 4 => .array .int
  | 5 => .array .boolean
  | 6 => .array .boolean
  | 7 => .array .int
  | 8 => .array .boolean
  | 9 => .array .boolean
  | 10 => .array .int
  | 11 => .array .int
  | 12 => .array .int
  | 13 => .array .boolean
  | 14 => .array .boolean
  | 15 => .array .boolean
  | 16 => .array .boolean
  | 17 => .boolean
  | 18 => .int
  | 19 => .array .int
  | 20 => .array .int
  | 21 => .array .int
  | 22 => .array .int
  | 23 => .array .int
  | 24 => .array .int
  | 25 => .int
  | 26 => .int
  | 27 => .array .int
  | 28 => .int
  | 29 => .int
  | 30 => .array .int
  | _ => .array .int
theorem nm_R : ∀ a, a < 32 → ∀ b, b < 32 → a ≠ b → (T_R a).2.1 ≠ (T_R b).2.1 := by decide +kernel
theorem t_R_ok : ∀ k, k < 32 → parseFieldDescriptor (T_R k).2.2.1 = some (t_R k) := by decide +kernel
def n_L : String := "SafeControlLaw"
abbrev zcl : List vw_C := [(n_A, T_A, 4), (n_M, T_M, 8), (n_G, T_G, 11), (n_P, T_P, 3), (n_S, T_S, 9), (n_Y, T_Y, 5), (n_C, T_C, 8), (n_R, T_R, 32)]
abbrev b_A_add : ByteArray := prog_2_method_2_code
def y_A_add : MethodName := ⟨n_A, "add", "(II)I"⟩
abbrev b_A_areReady : ByteArray := prog_2_method_12_code
def y_A_areReady : MethodName := ⟨n_A, "areReady", "(I)Z"⟩
abbrev b_A_declare : ByteArray := prog_2_method_4_code
def y_A_declare : MethodName := ⟨n_A, "declare", "(IZ)V"⟩
abbrev b_A_eventsNotStopped : ByteArray := prog_2_method_19_code
def y_A_eventsNotStopped : MethodName := ⟨n_A, "eventsNotStopped", "(II)I"⟩
abbrev b_A_eventsOfPlants : ByteArray := prog_2_method_18_code
def y_A_eventsOfPlants : MethodName := ⟨n_A, "eventsOfPlants", "(I)I"⟩
abbrev b_A_everyone : ByteArray := prog_2_method_10_code
def y_A_everyone : MethodName := ⟨n_A, "everyone", "()I"⟩
abbrev b_A_firstCode : ByteArray := prog_2_method_15_code
def y_A_firstCode : MethodName := ⟨n_A, "firstCode", "(I)I"⟩
abbrev b_A_hasNumber : ByteArray := prog_2_method_7_code
def y_A_hasNumber : MethodName := ⟨n_A, "hasNumber", "(I)Z"⟩
abbrev b_A_hasState : ByteArray := prog_2_method_8_code
def y_A_hasState : MethodName := ⟨n_A, "hasState", "(II)Z"⟩
abbrev b_A_init : ByteArray := prog_2_method_1_code
def y_A_init : MethodName := ⟨n_A, "<init>", "()V"⟩
abbrev b_A_isControllable : ByteArray := prog_2_method_6_code
def y_A_isControllable : MethodName := ⟨n_A, "isControllable", "(I)Z"⟩
abbrev b_A_isDeclared : ByteArray := prog_2_method_5_code
def y_A_isDeclared : MethodName := ⟨n_A, "isDeclared", "(I)Z"⟩
abbrev b_A_isForbidden : ByteArray := prog_2_method_17_code
def y_A_isForbidden : MethodName := ⟨n_A, "isForbidden", "(II)Z"⟩
abbrev b_A_isMarked : ByteArray := prog_2_method_16_code
def y_A_isMarked : MethodName := ⟨n_A, "isMarked", "(II)Z"⟩
abbrev b_A_isRule : ByteArray := prog_2_method_9_code
def y_A_isRule : MethodName := ⟨n_A, "isRule", "(I)Z"⟩
abbrev b_A_plants : ByteArray := prog_2_method_11_code
def y_A_plants : MethodName := ⟨n_A, "plants", "()I"⟩
abbrev b_A_removeAll : ByteArray := prog_2_method_3_code
def y_A_removeAll : MethodName := ⟨n_A, "removeAll", "()V"⟩
abbrev b_A_stateIn : ByteArray := prog_2_method_13_code
def y_A_stateIn : MethodName := ⟨n_A, "stateIn", "(II)I"⟩
abbrev b_A_step : ByteArray := prog_2_method_20_code
def y_A_step : MethodName := ⟨n_A, "step", "(III)I"⟩
abbrev b_A_withState : ByteArray := prog_2_method_14_code
def y_A_withState : MethodName := ⟨n_A, "withState", "(III)I"⟩
abbrev b_C_act : ByteArray := prog_1_method_15_code
def y_C_act : MethodName := ⟨n_C, "act", "(I)I"⟩
abbrev b_C_allowed : ByteArray := prog_1_method_18_code
def y_C_allowed : MethodName := ⟨n_C, "allowed", "()I"⟩
abbrev b_C_automaton : ByteArray := prog_1_method_2_code
def y_C_automaton : MethodName := ⟨n_C, "automaton", "(II)I"⟩
abbrev b_C_clear : ByteArray := prog_1_method_6_code
def y_C_clear : MethodName := ⟨n_C, "clear", "()V"⟩
abbrev b_C_conflict : ByteArray := prog_1_method_14_code
def y_C_conflict : MethodName := ⟨n_C, "conflict", "(II)I"⟩
abbrev b_C_edge : ByteArray := prog_1_method_4_code
def y_C_edge : MethodName := ⟨n_C, "edge", "(IIII)V"⟩
abbrev b_C_event : ByteArray := prog_1_method_3_code
def y_C_event : MethodName := ⟨n_C, "event", "(IZ)Z"⟩
abbrev b_C_hasBit : ByteArray := prog_1_method_26_code
def y_C_hasBit : MethodName := ⟨n_C, "hasBit", "(II)Z"⟩
abbrev b_C_here : ByteArray := prog_1_method_17_code
def y_C_here : MethodName := ⟨n_C, "here", "()I"⟩
abbrev b_C_home : ByteArray := prog_1_method_19_code
def y_C_home : MethodName := ⟨n_C, "home", "()I"⟩
abbrev b_C_init : ByteArray := prog_1_method_1_code
def y_C_init : MethodName := ⟨n_C, "<init>", "()V"⟩
abbrev b_C_leads : ByteArray := prog_1_method_9_code
def y_C_leads : MethodName := ⟨n_C, "leads", "(II)I"⟩
abbrev b_C_make : ByteArray := prog_1_method_7_code
def y_C_make : MethodName := ⟨n_C, "make", "()I"⟩
abbrev b_C_many : ByteArray := prog_1_method_11_code
def y_C_many : MethodName := ⟨n_C, "many", "(I)I"⟩
abbrev b_C_part : ByteArray := prog_1_method_10_code
def y_C_part : MethodName := ⟨n_C, "part", "(II)I"⟩
abbrev b_C_requireEvent : ByteArray := prog_1_method_24_code
def y_C_requireEvent : MethodName := ⟨n_C, "requireEvent", "(I)V"⟩
abbrev b_C_requireResult : ByteArray := prog_1_method_21_code
def y_C_requireResult : MethodName := ⟨n_C, "requireResult", "()V"⟩
abbrev b_C_requireState : ByteArray := prog_1_method_23_code
def y_C_requireState : MethodName := ⟨n_C, "requireState", "(I)V"⟩
abbrev b_C_requireStateAndEvent : ByteArray := prog_1_method_25_code
def y_C_requireStateAndEvent : MethodName := ⟨n_C, "requireStateAndEvent", "(II)V"⟩
abbrev b_C_requireSupervisor : ByteArray := prog_1_method_22_code
def y_C_requireSupervisor : MethodName := ⟨n_C, "requireSupervisor", "()V"⟩
abbrev b_C_reset : ByteArray := prog_1_method_16_code
def y_C_reset : MethodName := ⟨n_C, "reset", "()V"⟩
abbrev b_C_says : ByteArray := prog_1_method_8_code
def y_C_says : MethodName := ⟨n_C, "says", "(II)I"⟩
abbrev b_C_superviseUnder : ByteArray := prog_1_method_20_code
def y_C_superviseUnder : MethodName := ⟨n_C, "superviseUnder", "(ILSafeControl$Supervisor;)Z"⟩
abbrev b_C_tell : ByteArray := prog_1_method_5_code
def y_C_tell : MethodName := ⟨n_C, "tell", "(IIIZ)V"⟩
abbrev b_C_why : ByteArray := prog_1_method_12_code
def y_C_why : MethodName := ⟨n_C, "why", "()I"⟩
abbrev b_C_whyEvent : ByteArray := prog_1_method_13_code
def y_C_whyEvent : MethodName := ⟨n_C, "whyEvent", "(I)I"⟩
abbrev b_G_add : ByteArray := prog_4_method_3_code
def y_G_add : MethodName := ⟨n_G, "add", "(II)V"⟩
abbrev b_G_begin : ByteArray := prog_4_method_2_code
def y_G_begin : MethodName := ⟨n_G, "begin", "(I)V"⟩
abbrev b_G_countKept : ByteArray := prog_4_method_6_code
def y_G_countKept : MethodName := ⟨n_G, "countKept", "()I"⟩
abbrev b_G_dropDeadEnds : ByteArray := prog_4_method_9_code
def y_G_dropDeadEnds : MethodName := ⟨n_G, "dropDeadEnds", "()Z"⟩
abbrev b_G_init : ByteArray := prog_4_method_1_code
def y_G_init : MethodName := ⟨n_G, "<init>", "()V"⟩
abbrev b_G_keptTarget : ByteArray := prog_4_method_5_code
def y_G_keptTarget : MethodName := ⟨n_G, "keptTarget", "(II)I"⟩
abbrev b_G_link : ByteArray := prog_4_method_4_code
def y_G_link : MethodName := ⟨n_G, "link", "(III)I"⟩
abbrev b_G_measure : ByteArray := prog_4_method_7_code
def y_G_measure : MethodName := ⟨n_G, "measure", "()V"⟩
abbrev b_G_measureInto : ByteArray := prog_4_method_8_code
def y_G_measureInto : MethodName := ⟨n_G, "measureInto", "(II)I"⟩
abbrev b_L_act : ByteArray := method_14_code
def y_L_act : MethodName := ⟨n_L, "act", "(LSafeControl;I[J)I"⟩
abbrev b_L_allowed : ByteArray := method_17_code
def y_L_allowed : MethodName := ⟨n_L, "allowed", "(LSafeControl;[J)I"⟩
abbrev b_L_automaton : ByteArray := method_3_code
def y_L_automaton : MethodName := ⟨n_L, "automaton", "(LSafeControl;II[J)I"⟩
abbrev b_L_conflict : ByteArray := method_13_code
def y_L_conflict : MethodName := ⟨n_L, "conflict", "(LSafeControl;II[J)I"⟩
abbrev b_L_edge : ByteArray := method_5_code
def y_L_edge : MethodName := ⟨n_L, "edge", "(LSafeControl;IIII)I"⟩
abbrev b_L_event : ByteArray := method_4_code
def y_L_event : MethodName := ⟨n_L, "event", "(LSafeControl;IZ[J)I"⟩
abbrev b_L_here : ByteArray := method_16_code
def y_L_here : MethodName := ⟨n_L, "here", "(LSafeControl;[J)I"⟩
abbrev b_L_home : ByteArray := method_18_code
def y_L_home : MethodName := ⟨n_L, "home", "(LSafeControl;[J)I"⟩
abbrev b_L_law : ByteArray := code
def y_L_law : MethodName := ⟨n_L, "law", "([I)Z"⟩
abbrev b_L_leads : ByteArray := method_8_code
def y_L_leads : MethodName := ⟨n_L, "leads", "(LSafeControl;II[J)I"⟩
abbrev b_L_many : ByteArray := method_10_code
def y_L_many : MethodName := ⟨n_L, "many", "(LSafeControl;I[J)I"⟩
abbrev b_L_part : ByteArray := method_9_code
def y_L_part : MethodName := ⟨n_L, "part", "(LSafeControl;II[J)I"⟩
abbrev b_L_reset : ByteArray := method_15_code
def y_L_reset : MethodName := ⟨n_L, "reset", "(LSafeControl;)I"⟩
abbrev b_L_says : ByteArray := method_7_code
def y_L_says : MethodName := ⟨n_L, "says", "(LSafeControl;II[J)I"⟩
abbrev b_L_tell : ByteArray := method_6_code
def y_L_tell : MethodName := ⟨n_L, "tell", "(LSafeControl;IIIZ)I"⟩
abbrev b_L_why : ByteArray := method_11_code
def y_L_why : MethodName := ⟨n_L, "why", "(LSafeControl;[J)I"⟩
abbrev b_L_whyEvent : ByteArray := method_12_code
def y_L_whyEvent : MethodName := ⟨n_L, "whyEvent", "(LSafeControl;I[J)I"⟩
abbrev b_M_addEdge : ByteArray := prog_3_method_6_code
def y_M_addEdge : MethodName := ⟨n_M, "addEdge", "(III)V"⟩
abbrev b_M_begin : ByteArray := prog_3_method_2_code
def y_M_begin : MethodName := ⟨n_M, "begin", "(II)V"⟩
abbrev b_M_change : ByteArray := prog_3_method_7_code
def y_M_change : MethodName := ⟨n_M, "change", "(IIZ)V"⟩
abbrev b_M_changeInitial : ByteArray := prog_3_method_8_code
def y_M_changeInitial : MethodName := ⟨n_M, "changeInitial", "(IZ)V"⟩
abbrev b_M_eventsNotStopped : ByteArray := prog_3_method_4_code
def y_M_eventsNotStopped : MethodName := ⟨n_M, "eventsNotStopped", "(I)I"⟩
abbrev b_M_follow : ByteArray := prog_3_method_5_code
def y_M_follow : MethodName := ⟨n_M, "follow", "(II)I"⟩
abbrev b_M_hasEdge : ByteArray := prog_3_method_3_code
def y_M_hasEdge : MethodName := ⟨n_M, "hasEdge", "(II)Z"⟩
abbrev b_M_init : ByteArray := prog_3_method_1_code
def y_M_init : MethodName := ⟨n_M, "<init>", "()V"⟩
abbrev b_M_withBit : ByteArray := prog_3_method_9_code
def y_M_withBit : MethodName := ⟨n_M, "withBit", "(IIZ)I"⟩
abbrev b_P_explore : ByteArray := prog_5_method_2_code
def y_P_explore : MethodName := ⟨n_P, "explore", "(LSafeControl$Supervisor;LSafeControl$Supervisor;)Z"⟩
abbrev b_P_exploreFrom : ByteArray := prog_5_method_4_code
def y_P_exploreFrom : MethodName := ⟨n_P, "exploreFrom", "(ILSafeControl$Supervisor;LSafeControl$Supervisor;)Z"⟩
abbrev b_P_haveDeadEnd : ByteArray := prog_5_method_5_code
def y_P_haveDeadEnd : MethodName := ⟨n_P, "haveDeadEnd", "()Z"⟩
abbrev b_P_init : ByteArray := prog_5_method_1_code
def y_P_init : MethodName := ⟨n_P, "<init>", "(LSafeControl$Graph;)V"⟩
abbrev b_P_pairCode : ByteArray := prog_5_method_3_code
def y_P_pairCode : MethodName := ⟨n_P, "pairCode", "(LSafeControl$Supervisor;ILSafeControl$Supervisor;I)I"⟩
abbrev b_R_act : ByteArray := prog_9_method_37_code
def y_R_act : MethodName := ⟨n_R, "act", "(I)I"⟩
abbrev b_R_after : ByteArray := prog_9_method_16_code
def y_R_after : MethodName := ⟨n_R, "after", "(III)I"⟩
abbrev b_R_allowed : ByteArray := prog_9_method_40_code
def y_R_allowed : MethodName := ⟨n_R, "allowed", "()I"⟩
abbrev b_R_automaton : ByteArray := prog_9_method_6_code
def y_R_automaton : MethodName := ⟨n_R, "automaton", "(II)I"⟩
abbrev b_R_change : ByteArray := prog_9_method_5_code
def y_R_change : MethodName := ⟨n_R, "change", "()V"⟩
abbrev b_R_clear : ByteArray := prog_9_method_11_code
def y_R_clear : MethodName := ⟨n_R, "clear", "()V"⟩
abbrev b_R_comesHome : ByteArray := prog_9_method_34_code
def y_R_comesHome : MethodName := ⟨n_R, "comesHome", "(I)Z"⟩
abbrev b_R_conflict : ByteArray := prog_9_method_36_code
def y_R_conflict : MethodName := ⟨n_R, "conflict", "(II)I"⟩
abbrev b_R_couple : ByteArray := prog_9_method_33_code
def y_R_couple : MethodName := ⟨n_R, "couple", "(II)I"⟩
abbrev b_R_digit : ByteArray := prog_9_method_14_code
def y_R_digit : MethodName := ⟨n_R, "digit", "(II)I"⟩
abbrev b_R_edge : ByteArray := prog_9_method_9_code
def y_R_edge : MethodName := ⟨n_R, "edge", "(IIII)V"⟩
abbrev b_R_event : ByteArray := prog_9_method_7_code
def y_R_event : MethodName := ⟨n_R, "event", "(IZ)Z"⟩
abbrev b_R_explore : ByteArray := prog_9_method_18_code
def y_R_explore : MethodName := ⟨n_R, "explore", "(II)Z"⟩
abbrev b_R_good : ByteArray := prog_9_method_21_code
def y_R_good : MethodName := ⟨n_R, "good", "(III)I"⟩
abbrev b_R_has : ByteArray := prog_9_method_12_code
def y_R_has : MethodName := ⟨n_R, "has", "(II)Z"⟩
abbrev b_R_here : ByteArray := prog_9_method_39_code
def y_R_here : MethodName := ⟨n_R, "here", "()I"⟩
abbrev b_R_home : ByteArray := prog_9_method_41_code
def y_R_home : MethodName := ⟨n_R, "home", "()I"⟩
abbrev b_R_init : ByteArray := prog_9_method_1_code
def y_R_init : MethodName := ⟨n_R, "<init>", "()V"⟩
abbrev b_R_isModel : ByteArray := prog_9_method_15_code
def y_R_isModel : MethodName := ⟨n_R, "isModel", "(I)Z"⟩
abbrev b_R_isNoState : ByteArray := prog_9_method_8_code
def y_R_isNoState : MethodName := ⟨n_R, "isNoState", "(II)Z"⟩
abbrev b_R_isRule : ByteArray := prog_9_method_35_code
def y_R_isRule : MethodName := ⟨n_R, "isRule", "(I)Z"⟩
abbrev b_R_isThere : ByteArray := prog_9_method_32_code
def y_R_isThere : MethodName := ⟨n_R, "isThere", "(II)Z"⟩
abbrev b_R_keep : ByteArray := prog_9_method_22_code
def y_R_keep : MethodName := ⟨n_R, "keep", "(I)V"⟩
abbrev b_R_leads : ByteArray := prog_9_method_27_code
def y_R_leads : MethodName := ⟨n_R, "leads", "(II)I"⟩
abbrev b_R_make : ByteArray := prog_9_method_24_code
def y_R_make : MethodName := ⟨n_R, "make", "()I"⟩
abbrev b_R_many : ByteArray := prog_9_method_29_code
def y_R_many : MethodName := ⟨n_R, "many", "(I)I"⟩
abbrev b_R_out : ByteArray := prog_9_method_4_code
def y_R_out : MethodName := ⟨n_R, "out", "(II)Z"⟩
abbrev b_R_part : ByteArray := prog_9_method_28_code
def y_R_part : MethodName := ⟨n_R, "part", "(II)I"⟩
abbrev b_R_placeOf : ByteArray := prog_9_method_17_code
def y_R_placeOf : MethodName := ⟨n_R, "placeOf", "(II)I"⟩
abbrev b_R_refuses : ByteArray := prog_9_method_25_code
def y_R_refuses : MethodName := ⟨n_R, "refuses", "(II)Z"⟩
abbrev b_R_reset : ByteArray := prog_9_method_38_code
def y_R_reset : MethodName := ⟨n_R, "reset", "()V"⟩
abbrev b_R_says : ByteArray := prog_9_method_26_code
def y_R_says : MethodName := ⟨n_R, "says", "(II)I"⟩
abbrev b_R_search : ByteArray := prog_9_method_23_code
def y_R_search : MethodName := ⟨n_R, "search", "(IZ)I"⟩
abbrev b_R_settle : ByteArray := prog_9_method_20_code
def y_R_settle : MethodName := ⟨n_R, "settle", "(I)V"⟩
abbrev b_R_takesOut : ByteArray := prog_9_method_19_code
def y_R_takesOut : MethodName := ⟨n_R, "takesOut", "(I)Z"⟩
abbrev b_R_takesPart : ByteArray := prog_9_method_13_code
def y_R_takesPart : MethodName := ⟨n_R, "takesPart", "(II)Z"⟩
abbrev b_R_tell : ByteArray := prog_9_method_10_code
def y_R_tell : MethodName := ⟨n_R, "tell", "(IIIZ)V"⟩
abbrev b_R_throwing : ByteArray := prog_9_method_3_code
def y_R_throwing : MethodName := ⟨n_R, "throwing", "(ZZ)Z"⟩
abbrev b_R_thrown : ByteArray := prog_9_method_2_code
def y_R_thrown : MethodName := ⟨n_R, "thrown", "()I"⟩
abbrev b_R_why : ByteArray := prog_9_method_30_code
def y_R_why : MethodName := ⟨n_R, "why", "()I"⟩
abbrev b_R_whyEvent : ByteArray := prog_9_method_31_code
def y_R_whyEvent : MethodName := ⟨n_R, "whyEvent", "(I)I"⟩
abbrev b_S_init : ByteArray := prog_6_method_1_code
def y_S_init : MethodName := ⟨n_S, "<init>", "()V"⟩
abbrev b_S_isMarked : ByteArray := prog_6_method_4_code
def y_S_isMarked : MethodName := ⟨n_S, "isMarked", "(I)Z"⟩
abbrev b_S_target : ByteArray := prog_6_method_2_code
def y_S_target : MethodName := ⟨n_S, "target", "(II)I"⟩
abbrev b_S_verdict : ByteArray := prog_6_method_3_code
def y_S_verdict : MethodName := ⟨n_S, "verdict", "(II)I"⟩
abbrev b_Y_build : ByteArray := prog_7_method_2_code
def y_Y_build : MethodName := ⟨n_Y, "build", "(ILSafeControl$Supervisor;)Z"⟩
abbrev b_Y_dropUnruly : ByteArray := prog_7_method_6_code
def y_Y_dropUnruly : MethodName := ⟨n_Y, "dropUnruly", "()Z"⟩
abbrev b_Y_explore : ByteArray := prog_7_method_3_code
def y_Y_explore : MethodName := ⟨n_Y, "explore", "(I)Z"⟩
abbrev b_Y_exploreFrom : ByteArray := prog_7_method_4_code
def y_Y_exploreFrom : MethodName := ⟨n_Y, "exploreFrom", "(II)Z"⟩
abbrev b_Y_firstLost : ByteArray := prog_7_method_9_code
def y_Y_firstLost : MethodName := ⟨n_Y, "firstLost", "()I"⟩
abbrev b_Y_init : ByteArray := prog_7_method_1_code
def y_Y_init : MethodName := ⟨n_Y, "<init>", "(LSafeControl$Automata;LSafeControl$Graph;)V"⟩
abbrev b_Y_isUnruly : ByteArray := prog_7_method_7_code
def y_Y_isUnruly : MethodName := ⟨n_Y, "isUnruly", "(I)Z"⟩
abbrev b_Y_keepGood : ByteArray := prog_7_method_5_code
def y_Y_keepGood : MethodName := ⟨n_Y, "keepGood", "()V"⟩
abbrev b_Y_stateFor : ByteArray := prog_7_method_12_code
def y_Y_stateFor : MethodName := ⟨n_Y, "stateFor", "(ILSafeControl$Supervisor;)I"⟩
abbrev b_Y_writeState : ByteArray := prog_7_method_11_code
def y_Y_writeState : MethodName := ⟨n_Y, "writeState", "(ILSafeControl$Supervisor;)V"⟩
abbrev b_Y_writeStates : ByteArray := prog_7_method_10_code
def y_Y_writeStates : MethodName := ⟨n_Y, "writeStates", "(LSafeControl$Supervisor;)V"⟩
abbrev b_Y_writeWord : ByteArray := prog_7_method_8_code
def y_Y_writeWord : MethodName := ⟨n_Y, "writeWord", "(LSafeControl$Supervisor;)V"⟩
end
section
theorem d_A_add_0 : decode b_A_add 0 = .ok (.aload_n 0, 1) := by decide +kernel
theorem d_A_add_1 : decode b_A_add 1 = .ok (.getfield 11, 3) := by decide +kernel
theorem d_A_add_4 : decode b_A_add 4 = .ok (.aload_n 0, 1) := by decide +kernel
theorem d_A_add_5 : decode b_A_add 5 = .ok (.getfield 18, 3) := by decide +kernel
theorem d_A_add_8 : decode b_A_add 8 = .ok (.aaload, 1) := by decide +kernel
theorem d_A_add_9 : decode b_A_add 9 = .ok (.iload_n 1, 1) := by decide +kernel
theorem d_A_add_10 : decode b_A_add 10 = .ok (.iload_n 2, 1) := by decide +kernel
theorem d_A_add_11 : decode b_A_add 11 = .ok (.invokevirtual 22, 3) := by decide +kernel
theorem d_A_add_14 : decode b_A_add 14 = .ok (.aload_n 0, 1) := by decide +kernel
theorem d_A_add_15 : decode b_A_add 15 = .ok (.dup, 1) := by decide +kernel
theorem d_A_add_16 : decode b_A_add 16 = .ok (.getfield 18, 3) := by decide +kernel
theorem d_A_add_19 : decode b_A_add 19 = .ok (.iconst 1, 1) := by decide +kernel
theorem d_A_add_20 : decode b_A_add 20 = .ok (.iadd, 1) := by decide +kernel
theorem d_A_add_21 : decode b_A_add 21 = .ok (.putfield 18, 3) := by decide +kernel
theorem d_A_add_24 : decode b_A_add 24 = .ok (.aload_n 0, 1) := by decide +kernel
theorem d_A_add_25 : decode b_A_add 25 = .ok (.getfield 18, 3) := by decide +kernel
theorem d_A_add_28 : decode b_A_add 28 = .ok (.iconst 1, 1) := by decide +kernel
theorem d_A_add_29 : decode b_A_add 29 = .ok (.isub, 1) := by decide +kernel
theorem d_A_add_30 : decode b_A_add 30 = .ok (.ireturn, 1) := by decide +kernel
theorem d_A_areReady_0 : decode b_A_areReady 0 = .ok (.iconst 0, 1) := by decide +kernel
theorem d_A_areReady_1 : decode b_A_areReady 1 = .ok (.istore_n 2, 1) := by decide +kernel
theorem d_A_areReady_2 : decode b_A_areReady 2 = .ok (.iload_n 2, 1) := by decide +kernel
theorem d_A_areReady_3 : decode b_A_areReady 3 = .ok (.aload_n 0, 1) := by decide +kernel
theorem d_A_areReady_4 : decode b_A_areReady 4 = .ok (.getfield 18, 3) := by decide +kernel
theorem d_A_areReady_7 : decode b_A_areReady 7 = .ok (.if_icmp .ge 32, 3) := by decide +kernel
theorem d_A_areReady_10 : decode b_A_areReady 10 = .ok (.iload_n 1, 1) := by decide +kernel
theorem d_A_areReady_11 : decode b_A_areReady 11 = .ok (.iload_n 2, 1) := by decide +kernel
theorem d_A_areReady_12 : decode b_A_areReady 12 = .ok (.invokestatic 32, 3) := by decide +kernel
theorem d_A_areReady_15 : decode b_A_areReady 15 = .ok (.ifCond .eq 18, 3) := by decide +kernel
theorem d_A_areReady_18 : decode b_A_areReady 18 = .ok (.aload_n 0, 1) := by decide +kernel
theorem d_A_areReady_19 : decode b_A_areReady 19 = .ok (.getfield 11, 3) := by decide +kernel
theorem d_A_areReady_22 : decode b_A_areReady 22 = .ok (.iload_n 2, 1) := by decide +kernel
theorem d_A_areReady_23 : decode b_A_areReady 23 = .ok (.aaload, 1) := by decide +kernel
theorem d_A_areReady_24 : decode b_A_areReady 24 = .ok (.getfield 46, 3) := by decide +kernel
theorem d_A_areReady_27 : decode b_A_areReady 27 = .ok (.iconst (-1), 1) := by decide +kernel
theorem d_A_areReady_28 : decode b_A_areReady 28 = .ok (.if_icmp .ne 5, 3) := by decide +kernel
theorem d_A_areReady_31 : decode b_A_areReady 31 = .ok (.iconst 0, 1) := by decide +kernel
theorem d_A_areReady_32 : decode b_A_areReady 32 = .ok (.ireturn, 1) := by decide +kernel
theorem d_A_areReady_33 : decode b_A_areReady 33 = .ok (.iinc 2 1, 3) := by decide +kernel
theorem d_A_areReady_36 : decode b_A_areReady 36 = .ok (.goto (-34), 3) := by decide +kernel
theorem d_A_areReady_39 : decode b_A_areReady 39 = .ok (.aload_n 0, 1) := by decide +kernel
theorem d_A_areReady_40 : decode b_A_areReady 40 = .ok (.invokevirtual 49, 3) := by decide +kernel
theorem d_A_areReady_43 : decode b_A_areReady 43 = .ok (.ifCond .eq 7, 3) := by decide +kernel
theorem d_A_areReady_46 : decode b_A_areReady 46 = .ok (.iconst 1, 1) := by decide +kernel
theorem d_A_areReady_47 : decode b_A_areReady 47 = .ok (.goto 4, 3) := by decide +kernel
theorem d_A_areReady_50 : decode b_A_areReady 50 = .ok (.iconst 0, 1) := by decide +kernel
theorem d_A_areReady_51 : decode b_A_areReady 51 = .ok (.ireturn, 1) := by decide +kernel
theorem d_A_declare_0 : decode b_A_declare 0 = .ok (.aload_n 0, 1) := by decide +kernel
theorem d_A_declare_1 : decode b_A_declare 1 = .ok (.dup, 1) := by decide +kernel
theorem d_A_declare_2 : decode b_A_declare 2 = .ok (.getfield 26, 3) := by decide +kernel
theorem d_A_declare_5 : decode b_A_declare 5 = .ok (.iconst 1, 1) := by decide +kernel
theorem d_A_declare_6 : decode b_A_declare 6 = .ok (.iload_n 1, 1) := by decide +kernel
theorem d_A_declare_7 : decode b_A_declare 7 = .ok (.ishl, 1) := by decide +kernel
theorem d_A_declare_8 : decode b_A_declare 8 = .ok (.ior, 1) := by decide +kernel
theorem d_A_declare_9 : decode b_A_declare 9 = .ok (.putfield 26, 3) := by decide +kernel
theorem d_A_declare_12 : decode b_A_declare 12 = .ok (.iload_n 2, 1) := by decide +kernel
theorem d_A_declare_13 : decode b_A_declare 13 = .ok (.ifCond .eq 15, 3) := by decide +kernel
theorem d_A_declare_16 : decode b_A_declare 16 = .ok (.aload_n 0, 1) := by decide +kernel
theorem d_A_declare_17 : decode b_A_declare 17 = .ok (.dup, 1) := by decide +kernel
theorem d_A_declare_18 : decode b_A_declare 18 = .ok (.getfield 29, 3) := by decide +kernel
theorem d_A_declare_21 : decode b_A_declare 21 = .ok (.iconst 1, 1) := by decide +kernel
theorem d_A_declare_22 : decode b_A_declare 22 = .ok (.iload_n 1, 1) := by decide +kernel
theorem d_A_declare_23 : decode b_A_declare 23 = .ok (.ishl, 1) := by decide +kernel
theorem d_A_declare_24 : decode b_A_declare 24 = .ok (.ior, 1) := by decide +kernel
theorem d_A_declare_25 : decode b_A_declare 25 = .ok (.putfield 29, 3) := by decide +kernel
theorem d_A_declare_28 : decode b_A_declare 28 = .ok (.return_, 1) := by decide +kernel
theorem d_A_eventsNotStopped_0 : decode b_A_eventsNotStopped 0 = .ok (.sipush 4095, 3) := by decide +kernel
theorem d_A_eventsNotStopped_3 : decode b_A_eventsNotStopped 3 = .ok (.istore_n 3, 1) := by decide +kernel
theorem d_A_eventsNotStopped_4 : decode b_A_eventsNotStopped 4 = .ok (.iconst 0, 1) := by decide +kernel
theorem d_A_eventsNotStopped_5 : decode b_A_eventsNotStopped 5 = .ok (.istore 4, 2) := by decide +kernel
theorem d_A_eventsNotStopped_7 : decode b_A_eventsNotStopped 7 = .ok (.iload 4, 2) := by decide +kernel
theorem d_A_eventsNotStopped_9 : decode b_A_eventsNotStopped 9 = .ok (.aload_n 0, 1) := by decide +kernel
theorem d_A_eventsNotStopped_10 : decode b_A_eventsNotStopped 10 = .ok (.getfield 18, 3) := by decide +kernel
theorem d_A_eventsNotStopped_13 : decode b_A_eventsNotStopped 13 = .ok (.if_icmp .ge 37, 3) := by decide +kernel
theorem d_A_eventsNotStopped_16 : decode b_A_eventsNotStopped 16 = .ok (.iload_n 2, 1) := by decide +kernel
theorem d_A_eventsNotStopped_17 : decode b_A_eventsNotStopped 17 = .ok (.iload 4, 2) := by decide +kernel
theorem d_A_eventsNotStopped_19 : decode b_A_eventsNotStopped 19 = .ok (.invokestatic 32, 3) := by decide +kernel
theorem d_A_eventsNotStopped_22 : decode b_A_eventsNotStopped 22 = .ok (.ifCond .eq 22, 3) := by decide +kernel
theorem d_A_eventsNotStopped_25 : decode b_A_eventsNotStopped 25 = .ok (.iload_n 3, 1) := by decide +kernel
theorem d_A_eventsNotStopped_26 : decode b_A_eventsNotStopped 26 = .ok (.aload_n 0, 1) := by decide +kernel
theorem d_A_eventsNotStopped_27 : decode b_A_eventsNotStopped 27 = .ok (.getfield 11, 3) := by decide +kernel
theorem d_A_eventsNotStopped_30 : decode b_A_eventsNotStopped 30 = .ok (.iload 4, 2) := by decide +kernel
theorem d_A_eventsNotStopped_32 : decode b_A_eventsNotStopped 32 = .ok (.aaload, 1) := by decide +kernel
theorem d_A_eventsNotStopped_33 : decode b_A_eventsNotStopped 33 = .ok (.iload_n 1, 1) := by decide +kernel
theorem d_A_eventsNotStopped_34 : decode b_A_eventsNotStopped 34 = .ok (.iload 4, 2) := by decide +kernel
theorem d_A_eventsNotStopped_36 : decode b_A_eventsNotStopped 36 = .ok (.invokestatic 60, 3) := by decide +kernel
theorem d_A_eventsNotStopped_39 : decode b_A_eventsNotStopped 39 = .ok (.invokevirtual 70, 3) := by decide +kernel
theorem d_A_eventsNotStopped_42 : decode b_A_eventsNotStopped 42 = .ok (.iand, 1) := by decide +kernel
theorem d_A_eventsNotStopped_43 : decode b_A_eventsNotStopped 43 = .ok (.istore_n 3, 1) := by decide +kernel
theorem d_A_eventsNotStopped_44 : decode b_A_eventsNotStopped 44 = .ok (.iinc 4 1, 3) := by decide +kernel
theorem d_A_eventsNotStopped_47 : decode b_A_eventsNotStopped 47 = .ok (.goto (-40), 3) := by decide +kernel
theorem d_A_eventsNotStopped_50 : decode b_A_eventsNotStopped 50 = .ok (.iload_n 3, 1) := by decide +kernel
theorem d_A_eventsNotStopped_51 : decode b_A_eventsNotStopped 51 = .ok (.ireturn, 1) := by decide +kernel
theorem d_A_eventsOfPlants_0 : decode b_A_eventsOfPlants 0 = .ok (.iconst 0, 1) := by decide +kernel
theorem d_A_eventsOfPlants_1 : decode b_A_eventsOfPlants 1 = .ok (.istore_n 2, 1) := by decide +kernel
theorem d_A_eventsOfPlants_2 : decode b_A_eventsOfPlants 2 = .ok (.sipush 4095, 3) := by decide +kernel
theorem d_A_eventsOfPlants_5 : decode b_A_eventsOfPlants 5 = .ok (.istore_n 3, 1) := by decide +kernel
theorem d_A_eventsOfPlants_6 : decode b_A_eventsOfPlants 6 = .ok (.iconst 0, 1) := by decide +kernel
theorem d_A_eventsOfPlants_7 : decode b_A_eventsOfPlants 7 = .ok (.istore 4, 2) := by decide +kernel
theorem d_A_eventsOfPlants_9 : decode b_A_eventsOfPlants 9 = .ok (.iload 4, 2) := by decide +kernel
theorem d_A_eventsOfPlants_11 : decode b_A_eventsOfPlants 11 = .ok (.aload_n 0, 1) := by decide +kernel
theorem d_A_eventsOfPlants_12 : decode b_A_eventsOfPlants 12 = .ok (.getfield 18, 3) := by decide +kernel
theorem d_A_eventsOfPlants_15 : decode b_A_eventsOfPlants 15 = .ok (.if_icmp .ge 54, 3) := by decide +kernel
theorem d_A_eventsOfPlants_18 : decode b_A_eventsOfPlants 18 = .ok (.aload_n 0, 1) := by decide +kernel
theorem d_A_eventsOfPlants_19 : decode b_A_eventsOfPlants 19 = .ok (.getfield 11, 3) := by decide +kernel
theorem d_A_eventsOfPlants_22 : decode b_A_eventsOfPlants 22 = .ok (.iload 4, 2) := by decide +kernel
theorem d_A_eventsOfPlants_24 : decode b_A_eventsOfPlants 24 = .ok (.aaload, 1) := by decide +kernel
theorem d_A_eventsOfPlants_25 : decode b_A_eventsOfPlants 25 = .ok (.getfield 43, 3) := by decide +kernel
theorem d_A_eventsOfPlants_28 : decode b_A_eventsOfPlants 28 = .ok (.ifCond .ne 35, 3) := by decide +kernel
theorem d_A_eventsOfPlants_31 : decode b_A_eventsOfPlants 31 = .ok (.iload_n 2, 1) := by decide +kernel
theorem d_A_eventsOfPlants_32 : decode b_A_eventsOfPlants 32 = .ok (.aload_n 0, 1) := by decide +kernel
theorem d_A_eventsOfPlants_33 : decode b_A_eventsOfPlants 33 = .ok (.getfield 11, 3) := by decide +kernel
theorem d_A_eventsOfPlants_36 : decode b_A_eventsOfPlants 36 = .ok (.iload 4, 2) := by decide +kernel
theorem d_A_eventsOfPlants_38 : decode b_A_eventsOfPlants 38 = .ok (.aaload, 1) := by decide +kernel
theorem d_A_eventsOfPlants_39 : decode b_A_eventsOfPlants 39 = .ok (.getfield 67, 3) := by decide +kernel
theorem d_A_eventsOfPlants_42 : decode b_A_eventsOfPlants 42 = .ok (.ior, 1) := by decide +kernel
theorem d_A_eventsOfPlants_43 : decode b_A_eventsOfPlants 43 = .ok (.istore_n 2, 1) := by decide +kernel
theorem d_A_eventsOfPlants_44 : decode b_A_eventsOfPlants 44 = .ok (.iload_n 3, 1) := by decide +kernel
theorem d_A_eventsOfPlants_45 : decode b_A_eventsOfPlants 45 = .ok (.aload_n 0, 1) := by decide +kernel
theorem d_A_eventsOfPlants_46 : decode b_A_eventsOfPlants 46 = .ok (.getfield 11, 3) := by decide +kernel
theorem d_A_eventsOfPlants_49 : decode b_A_eventsOfPlants 49 = .ok (.iload 4, 2) := by decide +kernel
theorem d_A_eventsOfPlants_51 : decode b_A_eventsOfPlants 51 = .ok (.aaload, 1) := by decide +kernel
theorem d_A_eventsOfPlants_52 : decode b_A_eventsOfPlants 52 = .ok (.iload_n 1, 1) := by decide +kernel
theorem d_A_eventsOfPlants_53 : decode b_A_eventsOfPlants 53 = .ok (.iload 4, 2) := by decide +kernel
theorem d_A_eventsOfPlants_55 : decode b_A_eventsOfPlants 55 = .ok (.invokestatic 60, 3) := by decide +kernel
theorem d_A_eventsOfPlants_58 : decode b_A_eventsOfPlants 58 = .ok (.invokevirtual 70, 3) := by decide +kernel
theorem d_A_eventsOfPlants_61 : decode b_A_eventsOfPlants 61 = .ok (.iand, 1) := by decide +kernel
theorem d_A_eventsOfPlants_62 : decode b_A_eventsOfPlants 62 = .ok (.istore_n 3, 1) := by decide +kernel
theorem d_A_eventsOfPlants_63 : decode b_A_eventsOfPlants 63 = .ok (.iinc 4 1, 3) := by decide +kernel
theorem d_A_eventsOfPlants_66 : decode b_A_eventsOfPlants 66 = .ok (.goto (-57), 3) := by decide +kernel
theorem d_A_eventsOfPlants_69 : decode b_A_eventsOfPlants 69 = .ok (.iload_n 2, 1) := by decide +kernel
theorem d_A_eventsOfPlants_70 : decode b_A_eventsOfPlants 70 = .ok (.iload_n 3, 1) := by decide +kernel
theorem d_A_eventsOfPlants_71 : decode b_A_eventsOfPlants 71 = .ok (.iand, 1) := by decide +kernel
theorem d_A_eventsOfPlants_72 : decode b_A_eventsOfPlants 72 = .ok (.ireturn, 1) := by decide +kernel
theorem d_A_everyone_0 : decode b_A_everyone 0 = .ok (.iconst 1, 1) := by decide +kernel
theorem d_A_everyone_1 : decode b_A_everyone 1 = .ok (.aload_n 0, 1) := by decide +kernel
theorem d_A_everyone_2 : decode b_A_everyone 2 = .ok (.getfield 18, 3) := by decide +kernel
theorem d_A_everyone_5 : decode b_A_everyone 5 = .ok (.ishl, 1) := by decide +kernel
theorem d_A_everyone_6 : decode b_A_everyone 6 = .ok (.iconst 1, 1) := by decide +kernel
theorem d_A_everyone_7 : decode b_A_everyone 7 = .ok (.isub, 1) := by decide +kernel
theorem d_A_everyone_8 : decode b_A_everyone 8 = .ok (.ireturn, 1) := by decide +kernel
theorem d_A_firstCode_0 : decode b_A_firstCode 0 = .ok (.iconst 0, 1) := by decide +kernel
theorem d_A_firstCode_1 : decode b_A_firstCode 1 = .ok (.istore_n 2, 1) := by decide +kernel
theorem d_A_firstCode_2 : decode b_A_firstCode 2 = .ok (.iconst 0, 1) := by decide +kernel
theorem d_A_firstCode_3 : decode b_A_firstCode 3 = .ok (.istore_n 3, 1) := by decide +kernel
theorem d_A_firstCode_4 : decode b_A_firstCode 4 = .ok (.iload_n 3, 1) := by decide +kernel
theorem d_A_firstCode_5 : decode b_A_firstCode 5 = .ok (.aload_n 0, 1) := by decide +kernel
theorem d_A_firstCode_6 : decode b_A_firstCode 6 = .ok (.getfield 18, 3) := by decide +kernel
theorem d_A_firstCode_9 : decode b_A_firstCode 9 = .ok (.if_icmp .ge 32, 3) := by decide +kernel
theorem d_A_firstCode_12 : decode b_A_firstCode 12 = .ok (.iload_n 1, 1) := by decide +kernel
theorem d_A_firstCode_13 : decode b_A_firstCode 13 = .ok (.iload_n 3, 1) := by decide +kernel
theorem d_A_firstCode_14 : decode b_A_firstCode 14 = .ok (.invokestatic 32, 3) := by decide +kernel
theorem d_A_firstCode_17 : decode b_A_firstCode 17 = .ok (.ifCond .eq 18, 3) := by decide +kernel
theorem d_A_firstCode_20 : decode b_A_firstCode 20 = .ok (.iload_n 2, 1) := by decide +kernel
theorem d_A_firstCode_21 : decode b_A_firstCode 21 = .ok (.iload_n 3, 1) := by decide +kernel
theorem d_A_firstCode_22 : decode b_A_firstCode 22 = .ok (.aload_n 0, 1) := by decide +kernel
theorem d_A_firstCode_23 : decode b_A_firstCode 23 = .ok (.getfield 11, 3) := by decide +kernel
theorem d_A_firstCode_26 : decode b_A_firstCode 26 = .ok (.iload_n 3, 1) := by decide +kernel
theorem d_A_firstCode_27 : decode b_A_firstCode 27 = .ok (.aaload, 1) := by decide +kernel
theorem d_A_firstCode_28 : decode b_A_firstCode 28 = .ok (.getfield 46, 3) := by decide +kernel
theorem d_A_firstCode_31 : decode b_A_firstCode 31 = .ok (.invokestatic 53, 3) := by decide +kernel
theorem d_A_firstCode_34 : decode b_A_firstCode 34 = .ok (.istore_n 2, 1) := by decide +kernel
theorem d_A_firstCode_35 : decode b_A_firstCode 35 = .ok (.iinc 3 1, 3) := by decide +kernel
theorem d_A_firstCode_38 : decode b_A_firstCode 38 = .ok (.goto (-34), 3) := by decide +kernel
theorem d_A_firstCode_41 : decode b_A_firstCode 41 = .ok (.iload_n 2, 1) := by decide +kernel
theorem d_A_firstCode_42 : decode b_A_firstCode 42 = .ok (.ireturn, 1) := by decide +kernel
theorem d_A_hasNumber_0 : decode b_A_hasNumber 0 = .ok (.iload_n 1, 1) := by decide +kernel
theorem d_A_hasNumber_1 : decode b_A_hasNumber 1 = .ok (.ifCond .lt 15, 3) := by decide +kernel
theorem d_A_hasNumber_4 : decode b_A_hasNumber 4 = .ok (.iload_n 1, 1) := by decide +kernel
theorem d_A_hasNumber_5 : decode b_A_hasNumber 5 = .ok (.aload_n 0, 1) := by decide +kernel
theorem d_A_hasNumber_6 : decode b_A_hasNumber 6 = .ok (.getfield 18, 3) := by decide +kernel
theorem d_A_hasNumber_9 : decode b_A_hasNumber 9 = .ok (.if_icmp .ge 7, 3) := by decide +kernel
theorem d_A_hasNumber_12 : decode b_A_hasNumber 12 = .ok (.iconst 1, 1) := by decide +kernel
theorem d_A_hasNumber_13 : decode b_A_hasNumber 13 = .ok (.goto 4, 3) := by decide +kernel
theorem d_A_hasNumber_16 : decode b_A_hasNumber 16 = .ok (.iconst 0, 1) := by decide +kernel
theorem d_A_hasNumber_17 : decode b_A_hasNumber 17 = .ok (.ireturn, 1) := by decide +kernel
theorem d_A_hasState_0 : decode b_A_hasState 0 = .ok (.aload_n 0, 1) := by decide +kernel
theorem d_A_hasState_1 : decode b_A_hasState 1 = .ok (.iload_n 1, 1) := by decide +kernel
theorem d_A_hasState_2 : decode b_A_hasState 2 = .ok (.invokevirtual 36, 3) := by decide +kernel
theorem d_A_hasState_5 : decode b_A_hasState 5 = .ok (.ifCond .eq 24, 3) := by decide +kernel
theorem d_A_hasState_8 : decode b_A_hasState 8 = .ok (.iload_n 2, 1) := by decide +kernel
theorem d_A_hasState_9 : decode b_A_hasState 9 = .ok (.ifCond .lt 20, 3) := by decide +kernel
theorem d_A_hasState_12 : decode b_A_hasState 12 = .ok (.iload_n 2, 1) := by decide +kernel
theorem d_A_hasState_13 : decode b_A_hasState 13 = .ok (.aload_n 0, 1) := by decide +kernel
theorem d_A_hasState_14 : decode b_A_hasState 14 = .ok (.getfield 11, 3) := by decide +kernel
theorem d_A_hasState_17 : decode b_A_hasState 17 = .ok (.iload_n 1, 1) := by decide +kernel
theorem d_A_hasState_18 : decode b_A_hasState 18 = .ok (.aaload, 1) := by decide +kernel
theorem d_A_hasState_19 : decode b_A_hasState 19 = .ok (.getfield 40, 3) := by decide +kernel
theorem d_A_hasState_22 : decode b_A_hasState 22 = .ok (.if_icmp .ge 7, 3) := by decide +kernel
theorem d_A_hasState_25 : decode b_A_hasState 25 = .ok (.iconst 1, 1) := by decide +kernel
theorem d_A_hasState_26 : decode b_A_hasState 26 = .ok (.goto 4, 3) := by decide +kernel
theorem d_A_hasState_29 : decode b_A_hasState 29 = .ok (.iconst 0, 1) := by decide +kernel
theorem d_A_hasState_30 : decode b_A_hasState 30 = .ok (.ireturn, 1) := by decide +kernel
theorem d_A_init_0 : decode b_A_init 0 = .ok (.aload_n 0, 1) := by decide +kernel
theorem d_A_init_1 : decode b_A_init 1 = .ok (.invokespecial 3, 3) := by decide +kernel
theorem d_A_init_4 : decode b_A_init 4 = .ok (.aload_n 0, 1) := by decide +kernel
theorem d_A_init_5 : decode b_A_init 5 = .ok (.iconst 4, 1) := by decide +kernel
theorem d_A_init_6 : decode b_A_init 6 = .ok (.anewarray 9, 3) := by decide +kernel
theorem d_A_init_9 : decode b_A_init 9 = .ok (.putfield 11, 3) := by decide +kernel
theorem d_A_init_12 : decode b_A_init 12 = .ok (.iconst 0, 1) := by decide +kernel
theorem d_A_init_13 : decode b_A_init 13 = .ok (.istore_n 1, 1) := by decide +kernel
theorem d_A_init_14 : decode b_A_init 14 = .ok (.iload_n 1, 1) := by decide +kernel
theorem d_A_init_15 : decode b_A_init 15 = .ok (.iconst 4, 1) := by decide +kernel
theorem d_A_init_16 : decode b_A_init 16 = .ok (.if_icmp .ge 22, 3) := by decide +kernel
theorem d_A_init_19 : decode b_A_init 19 = .ok (.aload_n 0, 1) := by decide +kernel
theorem d_A_init_20 : decode b_A_init 20 = .ok (.getfield 11, 3) := by decide +kernel
theorem d_A_init_23 : decode b_A_init 23 = .ok (.iload_n 1, 1) := by decide +kernel
theorem d_A_init_24 : decode b_A_init 24 = .ok (.new 9, 3) := by decide +kernel
theorem d_A_init_27 : decode b_A_init 27 = .ok (.dup, 1) := by decide +kernel
theorem d_A_init_28 : decode b_A_init 28 = .ok (.invokespecial 17, 3) := by decide +kernel
theorem d_A_init_31 : decode b_A_init 31 = .ok (.aastore, 1) := by decide +kernel
theorem d_A_init_32 : decode b_A_init 32 = .ok (.iinc 1 1, 3) := by decide +kernel
theorem d_A_init_35 : decode b_A_init 35 = .ok (.goto (-21), 3) := by decide +kernel
theorem d_A_init_38 : decode b_A_init 38 = .ok (.return_, 1) := by decide +kernel
theorem d_A_isControllable_0 : decode b_A_isControllable 0 = .ok (.aload_n 0, 1) := by decide +kernel
theorem d_A_isControllable_1 : decode b_A_isControllable 1 = .ok (.getfield 29, 3) := by decide +kernel
theorem d_A_isControllable_4 : decode b_A_isControllable 4 = .ok (.iload_n 1, 1) := by decide +kernel
theorem d_A_isControllable_5 : decode b_A_isControllable 5 = .ok (.invokestatic 32, 3) := by decide +kernel
theorem d_A_isControllable_8 : decode b_A_isControllable 8 = .ok (.ireturn, 1) := by decide +kernel
theorem d_A_isDeclared_0 : decode b_A_isDeclared 0 = .ok (.aload_n 0, 1) := by decide +kernel
theorem d_A_isDeclared_1 : decode b_A_isDeclared 1 = .ok (.getfield 26, 3) := by decide +kernel
theorem d_A_isDeclared_4 : decode b_A_isDeclared 4 = .ok (.iload_n 1, 1) := by decide +kernel
theorem d_A_isDeclared_5 : decode b_A_isDeclared 5 = .ok (.invokestatic 32, 3) := by decide +kernel
theorem d_A_isDeclared_8 : decode b_A_isDeclared 8 = .ok (.ireturn, 1) := by decide +kernel
theorem d_A_isForbidden_0 : decode b_A_isForbidden 0 = .ok (.iconst 0, 1) := by decide +kernel
theorem d_A_isForbidden_1 : decode b_A_isForbidden 1 = .ok (.istore_n 3, 1) := by decide +kernel
theorem d_A_isForbidden_2 : decode b_A_isForbidden 2 = .ok (.iload_n 3, 1) := by decide +kernel
theorem d_A_isForbidden_3 : decode b_A_isForbidden 3 = .ok (.aload_n 0, 1) := by decide +kernel
theorem d_A_isForbidden_4 : decode b_A_isForbidden 4 = .ok (.getfield 18, 3) := by decide +kernel
theorem d_A_isForbidden_7 : decode b_A_isForbidden 7 = .ok (.if_icmp .ge 39, 3) := by decide +kernel
theorem d_A_isForbidden_10 : decode b_A_isForbidden 10 = .ok (.iload_n 2, 1) := by decide +kernel
theorem d_A_isForbidden_11 : decode b_A_isForbidden 11 = .ok (.iload_n 3, 1) := by decide +kernel
theorem d_A_isForbidden_12 : decode b_A_isForbidden 12 = .ok (.invokestatic 32, 3) := by decide +kernel
theorem d_A_isForbidden_15 : decode b_A_isForbidden 15 = .ok (.ifCond .eq 25, 3) := by decide +kernel
theorem d_A_isForbidden_18 : decode b_A_isForbidden 18 = .ok (.aload_n 0, 1) := by decide +kernel
theorem d_A_isForbidden_19 : decode b_A_isForbidden 19 = .ok (.getfield 11, 3) := by decide +kernel
theorem d_A_isForbidden_22 : decode b_A_isForbidden 22 = .ok (.iload_n 3, 1) := by decide +kernel
theorem d_A_isForbidden_23 : decode b_A_isForbidden 23 = .ok (.aaload, 1) := by decide +kernel
theorem d_A_isForbidden_24 : decode b_A_isForbidden 24 = .ok (.getfield 64, 3) := by decide +kernel
theorem d_A_isForbidden_27 : decode b_A_isForbidden 27 = .ok (.iload_n 1, 1) := by decide +kernel
theorem d_A_isForbidden_28 : decode b_A_isForbidden 28 = .ok (.iload_n 3, 1) := by decide +kernel
theorem d_A_isForbidden_29 : decode b_A_isForbidden 29 = .ok (.invokestatic 60, 3) := by decide +kernel
theorem d_A_isForbidden_32 : decode b_A_isForbidden 32 = .ok (.invokestatic 32, 3) := by decide +kernel
theorem d_A_isForbidden_35 : decode b_A_isForbidden 35 = .ok (.ifCond .eq 5, 3) := by decide +kernel
theorem d_A_isForbidden_38 : decode b_A_isForbidden 38 = .ok (.iconst 1, 1) := by decide +kernel
theorem d_A_isForbidden_39 : decode b_A_isForbidden 39 = .ok (.ireturn, 1) := by decide +kernel
theorem d_A_isForbidden_40 : decode b_A_isForbidden 40 = .ok (.iinc 3 1, 3) := by decide +kernel
theorem d_A_isForbidden_43 : decode b_A_isForbidden 43 = .ok (.goto (-41), 3) := by decide +kernel
theorem d_A_isForbidden_46 : decode b_A_isForbidden 46 = .ok (.iconst 0, 1) := by decide +kernel
theorem d_A_isForbidden_47 : decode b_A_isForbidden 47 = .ok (.ireturn, 1) := by decide +kernel
theorem d_A_isMarked_0 : decode b_A_isMarked 0 = .ok (.iconst 0, 1) := by decide +kernel
theorem d_A_isMarked_1 : decode b_A_isMarked 1 = .ok (.istore_n 3, 1) := by decide +kernel
theorem d_A_isMarked_2 : decode b_A_isMarked 2 = .ok (.iload_n 3, 1) := by decide +kernel
theorem d_A_isMarked_3 : decode b_A_isMarked 3 = .ok (.aload_n 0, 1) := by decide +kernel
theorem d_A_isMarked_4 : decode b_A_isMarked 4 = .ok (.getfield 18, 3) := by decide +kernel
theorem d_A_isMarked_7 : decode b_A_isMarked 7 = .ok (.if_icmp .ge 39, 3) := by decide +kernel
theorem d_A_isMarked_10 : decode b_A_isMarked 10 = .ok (.iload_n 2, 1) := by decide +kernel
theorem d_A_isMarked_11 : decode b_A_isMarked 11 = .ok (.iload_n 3, 1) := by decide +kernel
theorem d_A_isMarked_12 : decode b_A_isMarked 12 = .ok (.invokestatic 32, 3) := by decide +kernel
theorem d_A_isMarked_15 : decode b_A_isMarked 15 = .ok (.ifCond .eq 25, 3) := by decide +kernel
theorem d_A_isMarked_18 : decode b_A_isMarked 18 = .ok (.aload_n 0, 1) := by decide +kernel
theorem d_A_isMarked_19 : decode b_A_isMarked 19 = .ok (.getfield 11, 3) := by decide +kernel
theorem d_A_isMarked_22 : decode b_A_isMarked 22 = .ok (.iload_n 3, 1) := by decide +kernel
theorem d_A_isMarked_23 : decode b_A_isMarked 23 = .ok (.aaload, 1) := by decide +kernel
theorem d_A_isMarked_24 : decode b_A_isMarked 24 = .ok (.getfield 57, 3) := by decide +kernel
theorem d_A_isMarked_27 : decode b_A_isMarked 27 = .ok (.iload_n 1, 1) := by decide +kernel
theorem d_A_isMarked_28 : decode b_A_isMarked 28 = .ok (.iload_n 3, 1) := by decide +kernel
theorem d_A_isMarked_29 : decode b_A_isMarked 29 = .ok (.invokestatic 60, 3) := by decide +kernel
theorem d_A_isMarked_32 : decode b_A_isMarked 32 = .ok (.invokestatic 32, 3) := by decide +kernel
theorem d_A_isMarked_35 : decode b_A_isMarked 35 = .ok (.ifCond .ne 5, 3) := by decide +kernel
theorem d_A_isMarked_38 : decode b_A_isMarked 38 = .ok (.iconst 0, 1) := by decide +kernel
theorem d_A_isMarked_39 : decode b_A_isMarked 39 = .ok (.ireturn, 1) := by decide +kernel
theorem d_A_isMarked_40 : decode b_A_isMarked 40 = .ok (.iinc 3 1, 3) := by decide +kernel
theorem d_A_isMarked_43 : decode b_A_isMarked 43 = .ok (.goto (-41), 3) := by decide +kernel
theorem d_A_isMarked_46 : decode b_A_isMarked 46 = .ok (.iconst 1, 1) := by decide +kernel
theorem d_A_isMarked_47 : decode b_A_isMarked 47 = .ok (.ireturn, 1) := by decide +kernel
theorem d_A_isRule_0 : decode b_A_isRule 0 = .ok (.aload_n 0, 1) := by decide +kernel
theorem d_A_isRule_1 : decode b_A_isRule 1 = .ok (.iload_n 1, 1) := by decide +kernel
theorem d_A_isRule_2 : decode b_A_isRule 2 = .ok (.invokevirtual 36, 3) := by decide +kernel
theorem d_A_isRule_5 : decode b_A_isRule 5 = .ok (.ifCond .eq 20, 3) := by decide +kernel
theorem d_A_isRule_8 : decode b_A_isRule 8 = .ok (.aload_n 0, 1) := by decide +kernel
theorem d_A_isRule_9 : decode b_A_isRule 9 = .ok (.getfield 11, 3) := by decide +kernel
theorem d_A_isRule_12 : decode b_A_isRule 12 = .ok (.iload_n 1, 1) := by decide +kernel
theorem d_A_isRule_13 : decode b_A_isRule 13 = .ok (.aaload, 1) := by decide +kernel
theorem d_A_isRule_14 : decode b_A_isRule 14 = .ok (.getfield 43, 3) := by decide +kernel
theorem d_A_isRule_17 : decode b_A_isRule 17 = .ok (.iconst 1, 1) := by decide +kernel
theorem d_A_isRule_18 : decode b_A_isRule 18 = .ok (.if_icmp .ne 7, 3) := by decide +kernel
theorem d_A_isRule_21 : decode b_A_isRule 21 = .ok (.iconst 1, 1) := by decide +kernel
theorem d_A_isRule_22 : decode b_A_isRule 22 = .ok (.goto 4, 3) := by decide +kernel
theorem d_A_isRule_25 : decode b_A_isRule 25 = .ok (.iconst 0, 1) := by decide +kernel
theorem d_A_isRule_26 : decode b_A_isRule 26 = .ok (.ireturn, 1) := by decide +kernel
theorem d_A_plants_0 : decode b_A_plants 0 = .ok (.iconst 0, 1) := by decide +kernel
theorem d_A_plants_1 : decode b_A_plants 1 = .ok (.istore_n 1, 1) := by decide +kernel
theorem d_A_plants_2 : decode b_A_plants 2 = .ok (.iconst 0, 1) := by decide +kernel
theorem d_A_plants_3 : decode b_A_plants 3 = .ok (.istore_n 2, 1) := by decide +kernel
theorem d_A_plants_4 : decode b_A_plants 4 = .ok (.iload_n 2, 1) := by decide +kernel
theorem d_A_plants_5 : decode b_A_plants 5 = .ok (.aload_n 0, 1) := by decide +kernel
theorem d_A_plants_6 : decode b_A_plants 6 = .ok (.getfield 18, 3) := by decide +kernel
theorem d_A_plants_9 : decode b_A_plants 9 = .ok (.if_icmp .ge 27, 3) := by decide +kernel
theorem d_A_plants_12 : decode b_A_plants 12 = .ok (.aload_n 0, 1) := by decide +kernel
theorem d_A_plants_13 : decode b_A_plants 13 = .ok (.getfield 11, 3) := by decide +kernel
theorem d_A_plants_16 : decode b_A_plants 16 = .ok (.iload_n 2, 1) := by decide +kernel
theorem d_A_plants_17 : decode b_A_plants 17 = .ok (.aaload, 1) := by decide +kernel
theorem d_A_plants_18 : decode b_A_plants 18 = .ok (.getfield 43, 3) := by decide +kernel
theorem d_A_plants_21 : decode b_A_plants 21 = .ok (.ifCond .ne 9, 3) := by decide +kernel
theorem d_A_plants_24 : decode b_A_plants 24 = .ok (.iload_n 1, 1) := by decide +kernel
theorem d_A_plants_25 : decode b_A_plants 25 = .ok (.iconst 1, 1) := by decide +kernel
theorem d_A_plants_26 : decode b_A_plants 26 = .ok (.iload_n 2, 1) := by decide +kernel
theorem d_A_plants_27 : decode b_A_plants 27 = .ok (.ishl, 1) := by decide +kernel
theorem d_A_plants_28 : decode b_A_plants 28 = .ok (.ior, 1) := by decide +kernel
theorem d_A_plants_29 : decode b_A_plants 29 = .ok (.istore_n 1, 1) := by decide +kernel
theorem d_A_plants_30 : decode b_A_plants 30 = .ok (.iinc 2 1, 3) := by decide +kernel
theorem d_A_plants_33 : decode b_A_plants 33 = .ok (.goto (-29), 3) := by decide +kernel
theorem d_A_plants_36 : decode b_A_plants 36 = .ok (.iload_n 1, 1) := by decide +kernel
theorem d_A_plants_37 : decode b_A_plants 37 = .ok (.ireturn, 1) := by decide +kernel
theorem d_A_removeAll_0 : decode b_A_removeAll 0 = .ok (.aload_n 0, 1) := by decide +kernel
theorem d_A_removeAll_1 : decode b_A_removeAll 1 = .ok (.iconst 0, 1) := by decide +kernel
theorem d_A_removeAll_2 : decode b_A_removeAll 2 = .ok (.putfield 18, 3) := by decide +kernel
theorem d_A_removeAll_5 : decode b_A_removeAll 5 = .ok (.aload_n 0, 1) := by decide +kernel
theorem d_A_removeAll_6 : decode b_A_removeAll 6 = .ok (.iconst 0, 1) := by decide +kernel
theorem d_A_removeAll_7 : decode b_A_removeAll 7 = .ok (.putfield 26, 3) := by decide +kernel
theorem d_A_removeAll_10 : decode b_A_removeAll 10 = .ok (.aload_n 0, 1) := by decide +kernel
theorem d_A_removeAll_11 : decode b_A_removeAll 11 = .ok (.iconst 0, 1) := by decide +kernel
theorem d_A_removeAll_12 : decode b_A_removeAll 12 = .ok (.putfield 29, 3) := by decide +kernel
theorem d_A_removeAll_15 : decode b_A_removeAll 15 = .ok (.return_, 1) := by decide +kernel
theorem d_A_stateIn_0 : decode b_A_stateIn 0 = .ok (.iload_n 0, 1) := by decide +kernel
theorem d_A_stateIn_1 : decode b_A_stateIn 1 = .ok (.iload_n 1, 1) := by decide +kernel
theorem d_A_stateIn_2 : decode b_A_stateIn 2 = .ok (.iconst 3, 1) := by decide +kernel
theorem d_A_stateIn_3 : decode b_A_stateIn 3 = .ok (.imul, 1) := by decide +kernel
theorem d_A_stateIn_4 : decode b_A_stateIn 4 = .ok (.ishr, 1) := by decide +kernel
theorem d_A_stateIn_5 : decode b_A_stateIn 5 = .ok (.bipush 7, 2) := by decide +kernel
theorem d_A_stateIn_7 : decode b_A_stateIn 7 = .ok (.iand, 1) := by decide +kernel
theorem d_A_stateIn_8 : decode b_A_stateIn 8 = .ok (.ireturn, 1) := by decide +kernel
theorem d_A_step_0 : decode b_A_step 0 = .ok (.iload_n 1, 1) := by decide +kernel
theorem d_A_step_1 : decode b_A_step 1 = .ok (.istore 4, 2) := by decide +kernel
theorem d_A_step_3 : decode b_A_step 3 = .ok (.iconst 0, 1) := by decide +kernel
theorem d_A_step_4 : decode b_A_step 4 = .ok (.istore 5, 2) := by decide +kernel
theorem d_A_step_6 : decode b_A_step 6 = .ok (.iload 5, 2) := by decide +kernel
theorem d_A_step_8 : decode b_A_step 8 = .ok (.aload_n 0, 1) := by decide +kernel
theorem d_A_step_9 : decode b_A_step 9 = .ok (.getfield 18, 3) := by decide +kernel
theorem d_A_step_12 : decode b_A_step 12 = .ok (.if_icmp .ge 61, 3) := by decide +kernel
theorem d_A_step_15 : decode b_A_step 15 = .ok (.iload_n 3, 1) := by decide +kernel
theorem d_A_step_16 : decode b_A_step 16 = .ok (.iload 5, 2) := by decide +kernel
theorem d_A_step_18 : decode b_A_step 18 = .ok (.invokestatic 32, 3) := by decide +kernel
theorem d_A_step_21 : decode b_A_step 21 = .ok (.ifCond .eq 46, 3) := by decide +kernel
theorem d_A_step_24 : decode b_A_step 24 = .ok (.aload_n 0, 1) := by decide +kernel
theorem d_A_step_25 : decode b_A_step 25 = .ok (.getfield 11, 3) := by decide +kernel
theorem d_A_step_28 : decode b_A_step 28 = .ok (.iload 5, 2) := by decide +kernel
theorem d_A_step_30 : decode b_A_step 30 = .ok (.aaload, 1) := by decide +kernel
theorem d_A_step_31 : decode b_A_step 31 = .ok (.getfield 67, 3) := by decide +kernel
theorem d_A_step_34 : decode b_A_step 34 = .ok (.iload_n 2, 1) := by decide +kernel
theorem d_A_step_35 : decode b_A_step 35 = .ok (.invokestatic 32, 3) := by decide +kernel
theorem d_A_step_38 : decode b_A_step 38 = .ok (.ifCond .eq 29, 3) := by decide +kernel
theorem d_A_step_41 : decode b_A_step 41 = .ok (.iload 4, 2) := by decide +kernel
theorem d_A_step_43 : decode b_A_step 43 = .ok (.iload 5, 2) := by decide +kernel
theorem d_A_step_45 : decode b_A_step 45 = .ok (.aload_n 0, 1) := by decide +kernel
theorem d_A_step_46 : decode b_A_step 46 = .ok (.getfield 11, 3) := by decide +kernel
theorem d_A_step_49 : decode b_A_step 49 = .ok (.iload 5, 2) := by decide +kernel
theorem d_A_step_51 : decode b_A_step 51 = .ok (.aaload, 1) := by decide +kernel
theorem d_A_step_52 : decode b_A_step 52 = .ok (.iload_n 1, 1) := by decide +kernel
theorem d_A_step_53 : decode b_A_step 53 = .ok (.iload 5, 2) := by decide +kernel
theorem d_A_step_55 : decode b_A_step 55 = .ok (.invokestatic 60, 3) := by decide +kernel
theorem d_A_step_58 : decode b_A_step 58 = .ok (.iload_n 2, 1) := by decide +kernel
theorem d_A_step_59 : decode b_A_step 59 = .ok (.invokevirtual 74, 3) := by decide +kernel
theorem d_A_step_62 : decode b_A_step 62 = .ok (.invokestatic 53, 3) := by decide +kernel
theorem d_A_step_65 : decode b_A_step 65 = .ok (.istore 4, 2) := by decide +kernel
theorem d_A_step_67 : decode b_A_step 67 = .ok (.iinc 5 1, 3) := by decide +kernel
theorem d_A_step_70 : decode b_A_step 70 = .ok (.goto (-64), 3) := by decide +kernel
theorem d_A_step_73 : decode b_A_step 73 = .ok (.iload 4, 2) := by decide +kernel
theorem d_A_step_75 : decode b_A_step 75 = .ok (.ireturn, 1) := by decide +kernel
theorem d_A_withState_0 : decode b_A_withState 0 = .ok (.iload_n 1, 1) := by decide +kernel
theorem d_A_withState_1 : decode b_A_withState 1 = .ok (.iconst 3, 1) := by decide +kernel
theorem d_A_withState_2 : decode b_A_withState 2 = .ok (.imul, 1) := by decide +kernel
theorem d_A_withState_3 : decode b_A_withState 3 = .ok (.istore_n 3, 1) := by decide +kernel
theorem d_A_withState_4 : decode b_A_withState 4 = .ok (.iload_n 0, 1) := by decide +kernel
theorem d_A_withState_5 : decode b_A_withState 5 = .ok (.bipush 7, 2) := by decide +kernel
theorem d_A_withState_7 : decode b_A_withState 7 = .ok (.iload_n 3, 1) := by decide +kernel
theorem d_A_withState_8 : decode b_A_withState 8 = .ok (.ishl, 1) := by decide +kernel
theorem d_A_withState_9 : decode b_A_withState 9 = .ok (.iconst (-1), 1) := by decide +kernel
theorem d_A_withState_10 : decode b_A_withState 10 = .ok (.ixor, 1) := by decide +kernel
theorem d_A_withState_11 : decode b_A_withState 11 = .ok (.iand, 1) := by decide +kernel
theorem d_A_withState_12 : decode b_A_withState 12 = .ok (.iload_n 2, 1) := by decide +kernel
theorem d_A_withState_13 : decode b_A_withState 13 = .ok (.iload_n 3, 1) := by decide +kernel
theorem d_A_withState_14 : decode b_A_withState 14 = .ok (.ishl, 1) := by decide +kernel
theorem d_A_withState_15 : decode b_A_withState 15 = .ok (.ior, 1) := by decide +kernel
theorem d_A_withState_16 : decode b_A_withState 16 = .ok (.ireturn, 1) := by decide +kernel
theorem d_M_addEdge_0 : decode b_M_addEdge 0 = .ok (.aload_n 0, 1) := by decide +kernel
theorem d_M_addEdge_1 : decode b_M_addEdge 1 = .ok (.getfield 15, 3) := by decide +kernel
theorem d_M_addEdge_4 : decode b_M_addEdge 4 = .ok (.iload_n 1, 1) := by decide +kernel
theorem d_M_addEdge_5 : decode b_M_addEdge 5 = .ok (.bipush 12, 2) := by decide +kernel
theorem d_M_addEdge_7 : decode b_M_addEdge 7 = .ok (.imul, 1) := by decide +kernel
theorem d_M_addEdge_8 : decode b_M_addEdge 8 = .ok (.iload_n 2, 1) := by decide +kernel
theorem d_M_addEdge_9 : decode b_M_addEdge 9 = .ok (.iadd, 1) := by decide +kernel
theorem d_M_addEdge_10 : decode b_M_addEdge 10 = .ok (.iload_n 3, 1) := by decide +kernel
theorem d_M_addEdge_11 : decode b_M_addEdge 11 = .ok (.iastore, 1) := by decide +kernel
theorem d_M_addEdge_12 : decode b_M_addEdge 12 = .ok (.aload_n 0, 1) := by decide +kernel
theorem d_M_addEdge_13 : decode b_M_addEdge 13 = .ok (.getfield 9, 3) := by decide +kernel
theorem d_M_addEdge_16 : decode b_M_addEdge 16 = .ok (.iload_n 1, 1) := by decide +kernel
theorem d_M_addEdge_17 : decode b_M_addEdge 17 = .ok (.dup2, 1) := by decide +kernel
theorem d_M_addEdge_18 : decode b_M_addEdge 18 = .ok (.iaload, 1) := by decide +kernel
theorem d_M_addEdge_19 : decode b_M_addEdge 19 = .ok (.iconst 1, 1) := by decide +kernel
theorem d_M_addEdge_20 : decode b_M_addEdge 20 = .ok (.iload_n 2, 1) := by decide +kernel
theorem d_M_addEdge_21 : decode b_M_addEdge 21 = .ok (.ishl, 1) := by decide +kernel
theorem d_M_addEdge_22 : decode b_M_addEdge 22 = .ok (.ior, 1) := by decide +kernel
theorem d_M_addEdge_23 : decode b_M_addEdge 23 = .ok (.iastore, 1) := by decide +kernel
theorem d_M_addEdge_24 : decode b_M_addEdge 24 = .ok (.aload_n 0, 1) := by decide +kernel
theorem d_M_addEdge_25 : decode b_M_addEdge 25 = .ok (.dup, 1) := by decide +kernel
theorem d_M_addEdge_26 : decode b_M_addEdge 26 = .ok (.getfield 34, 3) := by decide +kernel
theorem d_M_addEdge_29 : decode b_M_addEdge 29 = .ok (.iconst 1, 1) := by decide +kernel
theorem d_M_addEdge_30 : decode b_M_addEdge 30 = .ok (.iload_n 2, 1) := by decide +kernel
theorem d_M_addEdge_31 : decode b_M_addEdge 31 = .ok (.ishl, 1) := by decide +kernel
theorem d_M_addEdge_32 : decode b_M_addEdge 32 = .ok (.ior, 1) := by decide +kernel
theorem d_M_addEdge_33 : decode b_M_addEdge 33 = .ok (.putfield 34, 3) := by decide +kernel
theorem d_M_addEdge_36 : decode b_M_addEdge 36 = .ok (.return_, 1) := by decide +kernel
theorem d_M_begin_0 : decode b_M_begin 0 = .ok (.aload_n 0, 1) := by decide +kernel
theorem d_M_begin_1 : decode b_M_begin 1 = .ok (.iload_n 1, 1) := by decide +kernel
theorem d_M_begin_2 : decode b_M_begin 2 = .ok (.putfield 18, 3) := by decide +kernel
theorem d_M_begin_5 : decode b_M_begin 5 = .ok (.aload_n 0, 1) := by decide +kernel
theorem d_M_begin_6 : decode b_M_begin 6 = .ok (.iload_n 2, 1) := by decide +kernel
theorem d_M_begin_7 : decode b_M_begin 7 = .ok (.putfield 22, 3) := by decide +kernel
theorem d_M_begin_10 : decode b_M_begin 10 = .ok (.aload_n 0, 1) := by decide +kernel
theorem d_M_begin_11 : decode b_M_begin 11 = .ok (.iconst (-1), 1) := by decide +kernel
theorem d_M_begin_12 : decode b_M_begin 12 = .ok (.putfield 25, 3) := by decide +kernel
theorem d_M_begin_15 : decode b_M_begin 15 = .ok (.aload_n 0, 1) := by decide +kernel
theorem d_M_begin_16 : decode b_M_begin 16 = .ok (.iconst 0, 1) := by decide +kernel
theorem d_M_begin_17 : decode b_M_begin 17 = .ok (.putfield 28, 3) := by decide +kernel
theorem d_M_begin_20 : decode b_M_begin 20 = .ok (.aload_n 0, 1) := by decide +kernel
theorem d_M_begin_21 : decode b_M_begin 21 = .ok (.iconst 0, 1) := by decide +kernel
theorem d_M_begin_22 : decode b_M_begin 22 = .ok (.putfield 31, 3) := by decide +kernel
theorem d_M_begin_25 : decode b_M_begin 25 = .ok (.aload_n 0, 1) := by decide +kernel
theorem d_M_begin_26 : decode b_M_begin 26 = .ok (.iconst 0, 1) := by decide +kernel
theorem d_M_begin_27 : decode b_M_begin 27 = .ok (.putfield 34, 3) := by decide +kernel
theorem d_M_begin_30 : decode b_M_begin 30 = .ok (.iconst 0, 1) := by decide +kernel
theorem d_M_begin_31 : decode b_M_begin 31 = .ok (.istore_n 3, 1) := by decide +kernel
theorem d_M_begin_32 : decode b_M_begin 32 = .ok (.iload_n 3, 1) := by decide +kernel
theorem d_M_begin_33 : decode b_M_begin 33 = .ok (.bipush 6, 2) := by decide +kernel
theorem d_M_begin_35 : decode b_M_begin 35 = .ok (.if_icmp .ge 16, 3) := by decide +kernel
theorem d_M_begin_38 : decode b_M_begin 38 = .ok (.aload_n 0, 1) := by decide +kernel
theorem d_M_begin_39 : decode b_M_begin 39 = .ok (.getfield 9, 3) := by decide +kernel
theorem d_M_begin_42 : decode b_M_begin 42 = .ok (.iload_n 3, 1) := by decide +kernel
theorem d_M_begin_43 : decode b_M_begin 43 = .ok (.iconst 0, 1) := by decide +kernel
theorem d_M_begin_44 : decode b_M_begin 44 = .ok (.iastore, 1) := by decide +kernel
theorem d_M_begin_45 : decode b_M_begin 45 = .ok (.iinc 3 1, 3) := by decide +kernel
theorem d_M_begin_48 : decode b_M_begin 48 = .ok (.goto (-16), 3) := by decide +kernel
theorem d_M_begin_51 : decode b_M_begin 51 = .ok (.return_, 1) := by decide +kernel
theorem d_M_change_0 : decode b_M_change 0 = .ok (.iload_n 2, 1) := by decide +kernel
theorem d_M_change_1 : decode b_M_change 1 = .ok (.ifCond .ne 12, 3) := by decide +kernel
theorem d_M_change_4 : decode b_M_change 4 = .ok (.aload_n 0, 1) := by decide +kernel
theorem d_M_change_5 : decode b_M_change 5 = .ok (.iload_n 1, 1) := by decide +kernel
theorem d_M_change_6 : decode b_M_change 6 = .ok (.iload_n 3, 1) := by decide +kernel
theorem d_M_change_7 : decode b_M_change 7 = .ok (.invokevirtual 41, 3) := by decide +kernel
theorem d_M_change_10 : decode b_M_change 10 = .ok (.goto 37, 3) := by decide +kernel
theorem d_M_change_13 : decode b_M_change 13 = .ok (.iload_n 2, 1) := by decide +kernel
theorem d_M_change_14 : decode b_M_change 14 = .ok (.iconst 1, 1) := by decide +kernel
theorem d_M_change_15 : decode b_M_change 15 = .ok (.if_icmp .ne 19, 3) := by decide +kernel
theorem d_M_change_18 : decode b_M_change 18 = .ok (.aload_n 0, 1) := by decide +kernel
theorem d_M_change_19 : decode b_M_change 19 = .ok (.aload_n 0, 1) := by decide +kernel
theorem d_M_change_20 : decode b_M_change 20 = .ok (.getfield 28, 3) := by decide +kernel
theorem d_M_change_23 : decode b_M_change 23 = .ok (.iload_n 1, 1) := by decide +kernel
theorem d_M_change_24 : decode b_M_change 24 = .ok (.iload_n 3, 1) := by decide +kernel
theorem d_M_change_25 : decode b_M_change 25 = .ok (.invokestatic 45, 3) := by decide +kernel
theorem d_M_change_28 : decode b_M_change 28 = .ok (.putfield 28, 3) := by decide +kernel
theorem d_M_change_31 : decode b_M_change 31 = .ok (.goto 16, 3) := by decide +kernel
theorem d_M_change_34 : decode b_M_change 34 = .ok (.aload_n 0, 1) := by decide +kernel
theorem d_M_change_35 : decode b_M_change 35 = .ok (.aload_n 0, 1) := by decide +kernel
theorem d_M_change_36 : decode b_M_change 36 = .ok (.getfield 31, 3) := by decide +kernel
theorem d_M_change_39 : decode b_M_change 39 = .ok (.iload_n 1, 1) := by decide +kernel
theorem d_M_change_40 : decode b_M_change 40 = .ok (.iload_n 3, 1) := by decide +kernel
theorem d_M_change_41 : decode b_M_change 41 = .ok (.invokestatic 45, 3) := by decide +kernel
theorem d_M_change_44 : decode b_M_change 44 = .ok (.putfield 31, 3) := by decide +kernel
theorem d_M_change_47 : decode b_M_change 47 = .ok (.return_, 1) := by decide +kernel
theorem d_M_changeInitial_0 : decode b_M_changeInitial 0 = .ok (.iload_n 2, 1) := by decide +kernel
theorem d_M_changeInitial_1 : decode b_M_changeInitial 1 = .ok (.ifCond .eq 11, 3) := by decide +kernel
theorem d_M_changeInitial_4 : decode b_M_changeInitial 4 = .ok (.aload_n 0, 1) := by decide +kernel
theorem d_M_changeInitial_5 : decode b_M_changeInitial 5 = .ok (.iload_n 1, 1) := by decide +kernel
theorem d_M_changeInitial_6 : decode b_M_changeInitial 6 = .ok (.putfield 25, 3) := by decide +kernel
theorem d_M_changeInitial_9 : decode b_M_changeInitial 9 = .ok (.goto 16, 3) := by decide +kernel
theorem d_M_changeInitial_12 : decode b_M_changeInitial 12 = .ok (.aload_n 0, 1) := by decide +kernel
theorem d_M_changeInitial_13 : decode b_M_changeInitial 13 = .ok (.getfield 25, 3) := by decide +kernel
theorem d_M_changeInitial_16 : decode b_M_changeInitial 16 = .ok (.iload_n 1, 1) := by decide +kernel
theorem d_M_changeInitial_17 : decode b_M_changeInitial 17 = .ok (.if_icmp .ne 8, 3) := by decide +kernel
theorem d_M_changeInitial_20 : decode b_M_changeInitial 20 = .ok (.aload_n 0, 1) := by decide +kernel
theorem d_M_changeInitial_21 : decode b_M_changeInitial 21 = .ok (.iconst (-1), 1) := by decide +kernel
theorem d_M_changeInitial_22 : decode b_M_changeInitial 22 = .ok (.putfield 25, 3) := by decide +kernel
theorem d_M_changeInitial_25 : decode b_M_changeInitial 25 = .ok (.return_, 1) := by decide +kernel
theorem d_M_eventsNotStopped_0 : decode b_M_eventsNotStopped 0 = .ok (.aload_n 0, 1) := by decide +kernel
theorem d_M_eventsNotStopped_1 : decode b_M_eventsNotStopped 1 = .ok (.getfield 34, 3) := by decide +kernel
theorem d_M_eventsNotStopped_4 : decode b_M_eventsNotStopped 4 = .ok (.iconst (-1), 1) := by decide +kernel
theorem d_M_eventsNotStopped_5 : decode b_M_eventsNotStopped 5 = .ok (.ixor, 1) := by decide +kernel
theorem d_M_eventsNotStopped_6 : decode b_M_eventsNotStopped 6 = .ok (.aload_n 0, 1) := by decide +kernel
theorem d_M_eventsNotStopped_7 : decode b_M_eventsNotStopped 7 = .ok (.getfield 9, 3) := by decide +kernel
theorem d_M_eventsNotStopped_10 : decode b_M_eventsNotStopped 10 = .ok (.iload_n 1, 1) := by decide +kernel
theorem d_M_eventsNotStopped_11 : decode b_M_eventsNotStopped 11 = .ok (.iaload, 1) := by decide +kernel
theorem d_M_eventsNotStopped_12 : decode b_M_eventsNotStopped 12 = .ok (.ior, 1) := by decide +kernel
theorem d_M_eventsNotStopped_13 : decode b_M_eventsNotStopped 13 = .ok (.ireturn, 1) := by decide +kernel
theorem d_M_follow_0 : decode b_M_follow 0 = .ok (.aload_n 0, 1) := by decide +kernel
theorem d_M_follow_1 : decode b_M_follow 1 = .ok (.getfield 15, 3) := by decide +kernel
theorem d_M_follow_4 : decode b_M_follow 4 = .ok (.iload_n 1, 1) := by decide +kernel
theorem d_M_follow_5 : decode b_M_follow 5 = .ok (.bipush 12, 2) := by decide +kernel
theorem d_M_follow_7 : decode b_M_follow 7 = .ok (.imul, 1) := by decide +kernel
theorem d_M_follow_8 : decode b_M_follow 8 = .ok (.iload_n 2, 1) := by decide +kernel
theorem d_M_follow_9 : decode b_M_follow 9 = .ok (.iadd, 1) := by decide +kernel
theorem d_M_follow_10 : decode b_M_follow 10 = .ok (.iaload, 1) := by decide +kernel
theorem d_M_follow_11 : decode b_M_follow 11 = .ok (.ireturn, 1) := by decide +kernel
theorem d_M_hasEdge_0 : decode b_M_hasEdge 0 = .ok (.aload_n 0, 1) := by decide +kernel
theorem d_M_hasEdge_1 : decode b_M_hasEdge 1 = .ok (.getfield 9, 3) := by decide +kernel
theorem d_M_hasEdge_4 : decode b_M_hasEdge 4 = .ok (.iload_n 1, 1) := by decide +kernel
theorem d_M_hasEdge_5 : decode b_M_hasEdge 5 = .ok (.iaload, 1) := by decide +kernel
theorem d_M_hasEdge_6 : decode b_M_hasEdge 6 = .ok (.iload_n 2, 1) := by decide +kernel
theorem d_M_hasEdge_7 : decode b_M_hasEdge 7 = .ok (.invokestatic 37, 3) := by decide +kernel
theorem d_M_hasEdge_10 : decode b_M_hasEdge 10 = .ok (.ireturn, 1) := by decide +kernel
theorem d_M_init_0 : decode b_M_init 0 = .ok (.aload_n 0, 1) := by decide +kernel
theorem d_M_init_1 : decode b_M_init 1 = .ok (.invokespecial 3, 3) := by decide +kernel
theorem d_M_init_4 : decode b_M_init 4 = .ok (.aload_n 0, 1) := by decide +kernel
theorem d_M_init_5 : decode b_M_init 5 = .ok (.bipush 6, 2) := by decide +kernel
theorem d_M_init_7 : decode b_M_init 7 = .ok (.newarray .int, 2) := by decide +kernel
theorem d_M_init_9 : decode b_M_init 9 = .ok (.putfield 9, 3) := by decide +kernel
theorem d_M_init_12 : decode b_M_init 12 = .ok (.aload_n 0, 1) := by decide +kernel
theorem d_M_init_13 : decode b_M_init 13 = .ok (.bipush 72, 2) := by decide +kernel
theorem d_M_init_15 : decode b_M_init 15 = .ok (.newarray .int, 2) := by decide +kernel
theorem d_M_init_17 : decode b_M_init 17 = .ok (.putfield 15, 3) := by decide +kernel
theorem d_M_init_20 : decode b_M_init 20 = .ok (.return_, 1) := by decide +kernel
theorem d_M_withBit_0 : decode b_M_withBit 0 = .ok (.iload_n 2, 1) := by decide +kernel
theorem d_M_withBit_1 : decode b_M_withBit 1 = .ok (.ifCond .eq 11, 3) := by decide +kernel
theorem d_M_withBit_4 : decode b_M_withBit 4 = .ok (.iload_n 0, 1) := by decide +kernel
theorem d_M_withBit_5 : decode b_M_withBit 5 = .ok (.iconst 1, 1) := by decide +kernel
theorem d_M_withBit_6 : decode b_M_withBit 6 = .ok (.iload_n 1, 1) := by decide +kernel
theorem d_M_withBit_7 : decode b_M_withBit 7 = .ok (.ishl, 1) := by decide +kernel
theorem d_M_withBit_8 : decode b_M_withBit 8 = .ok (.ior, 1) := by decide +kernel
theorem d_M_withBit_9 : decode b_M_withBit 9 = .ok (.goto 10, 3) := by decide +kernel
theorem d_M_withBit_12 : decode b_M_withBit 12 = .ok (.iload_n 0, 1) := by decide +kernel
theorem d_M_withBit_13 : decode b_M_withBit 13 = .ok (.iconst 1, 1) := by decide +kernel
theorem d_M_withBit_14 : decode b_M_withBit 14 = .ok (.iload_n 1, 1) := by decide +kernel
theorem d_M_withBit_15 : decode b_M_withBit 15 = .ok (.ishl, 1) := by decide +kernel
theorem d_M_withBit_16 : decode b_M_withBit 16 = .ok (.iconst (-1), 1) := by decide +kernel
theorem d_M_withBit_17 : decode b_M_withBit 17 = .ok (.ixor, 1) := by decide +kernel
theorem d_M_withBit_18 : decode b_M_withBit 18 = .ok (.iand, 1) := by decide +kernel
theorem d_M_withBit_19 : decode b_M_withBit 19 = .ok (.ireturn, 1) := by decide +kernel
theorem d_P_explore_0 : decode b_P_explore 0 = .ok (.aload_n 0, 1) := by decide +kernel
theorem d_P_explore_1 : decode b_P_explore 1 = .ok (.getfield 18, 3) := by decide +kernel
theorem d_P_explore_4 : decode b_P_explore 4 = .ok (.aload_n 1, 1) := by decide +kernel
theorem d_P_explore_5 : decode b_P_explore 5 = .ok (.iconst 1, 1) := by decide +kernel
theorem d_P_explore_6 : decode b_P_explore 6 = .ok (.aload_n 2, 1) := by decide +kernel
theorem d_P_explore_7 : decode b_P_explore 7 = .ok (.iconst 1, 1) := by decide +kernel
theorem d_P_explore_8 : decode b_P_explore 8 = .ok (.invokestatic 22, 3) := by decide +kernel
theorem d_P_explore_11 : decode b_P_explore 11 = .ok (.invokevirtual 26, 3) := by decide +kernel
theorem d_P_explore_14 : decode b_P_explore 14 = .ok (.aload_n 0, 1) := by decide +kernel
theorem d_P_explore_15 : decode b_P_explore 15 = .ok (.getfield 9, 3) := by decide +kernel
theorem d_P_explore_18 : decode b_P_explore 18 = .ok (.iconst 1, 1) := by decide +kernel
theorem d_P_explore_19 : decode b_P_explore 19 = .ok (.iconst 1, 1) := by decide +kernel
theorem d_P_explore_20 : decode b_P_explore 20 = .ok (.iastore, 1) := by decide +kernel
theorem d_P_explore_21 : decode b_P_explore 21 = .ok (.aload_n 0, 1) := by decide +kernel
theorem d_P_explore_22 : decode b_P_explore 22 = .ok (.getfield 15, 3) := by decide +kernel
theorem d_P_explore_25 : decode b_P_explore 25 = .ok (.iconst 1, 1) := by decide +kernel
theorem d_P_explore_26 : decode b_P_explore 26 = .ok (.iconst 1, 1) := by decide +kernel
theorem d_P_explore_27 : decode b_P_explore 27 = .ok (.iastore, 1) := by decide +kernel
theorem d_P_explore_28 : decode b_P_explore 28 = .ok (.iconst 1, 1) := by decide +kernel
theorem d_P_explore_29 : decode b_P_explore 29 = .ok (.istore_n 3, 1) := by decide +kernel
theorem d_P_explore_30 : decode b_P_explore 30 = .ok (.iload_n 3, 1) := by decide +kernel
theorem d_P_explore_31 : decode b_P_explore 31 = .ok (.aload_n 0, 1) := by decide +kernel
theorem d_P_explore_32 : decode b_P_explore 32 = .ok (.getfield 18, 3) := by decide +kernel
theorem d_P_explore_35 : decode b_P_explore 35 = .ok (.getfield 32, 3) := by decide +kernel
theorem d_P_explore_38 : decode b_P_explore 38 = .ok (.if_icmp .gt 28, 3) := by decide +kernel
theorem d_P_explore_41 : decode b_P_explore 41 = .ok (.iload_n 3, 1) := by decide +kernel
theorem d_P_explore_42 : decode b_P_explore 42 = .ok (.sipush 200, 3) := by decide +kernel
theorem d_P_explore_45 : decode b_P_explore 45 = .ok (.if_icmp .gt 21, 3) := by decide +kernel
theorem d_P_explore_48 : decode b_P_explore 48 = .ok (.aload_n 0, 1) := by decide +kernel
theorem d_P_explore_49 : decode b_P_explore 49 = .ok (.iload_n 3, 1) := by decide +kernel
theorem d_P_explore_50 : decode b_P_explore 50 = .ok (.aload_n 1, 1) := by decide +kernel
theorem d_P_explore_51 : decode b_P_explore 51 = .ok (.aload_n 2, 1) := by decide +kernel
theorem d_P_explore_52 : decode b_P_explore 52 = .ok (.invokevirtual 36, 3) := by decide +kernel
theorem d_P_explore_55 : decode b_P_explore 55 = .ok (.ifCond .ne 5, 3) := by decide +kernel
theorem d_P_explore_58 : decode b_P_explore 58 = .ok (.iconst 0, 1) := by decide +kernel
theorem d_P_explore_59 : decode b_P_explore 59 = .ok (.ireturn, 1) := by decide +kernel
theorem d_P_explore_60 : decode b_P_explore 60 = .ok (.iinc 3 1, 3) := by decide +kernel
theorem d_P_explore_63 : decode b_P_explore 63 = .ok (.goto (-33), 3) := by decide +kernel
theorem d_P_explore_66 : decode b_P_explore 66 = .ok (.iconst 1, 1) := by decide +kernel
theorem d_P_explore_67 : decode b_P_explore 67 = .ok (.ireturn, 1) := by decide +kernel
theorem d_P_exploreFrom_0 : decode b_P_exploreFrom 0 = .ok (.aload_n 0, 1) := by decide +kernel
theorem d_P_exploreFrom_1 : decode b_P_exploreFrom 1 = .ok (.getfield 18, 3) := by decide +kernel
theorem d_P_exploreFrom_4 : decode b_P_exploreFrom 4 = .ok (.getfield 45, 3) := by decide +kernel
theorem d_P_exploreFrom_7 : decode b_P_exploreFrom 7 = .ok (.iload_n 1, 1) := by decide +kernel
theorem d_P_exploreFrom_8 : decode b_P_exploreFrom 8 = .ok (.aload_n 2, 1) := by decide +kernel
theorem d_P_exploreFrom_9 : decode b_P_exploreFrom 9 = .ok (.aload_n 0, 1) := by decide +kernel
theorem d_P_exploreFrom_10 : decode b_P_exploreFrom 10 = .ok (.getfield 9, 3) := by decide +kernel
theorem d_P_exploreFrom_13 : decode b_P_exploreFrom 13 = .ok (.iload_n 1, 1) := by decide +kernel
theorem d_P_exploreFrom_14 : decode b_P_exploreFrom 14 = .ok (.iaload, 1) := by decide +kernel
theorem d_P_exploreFrom_15 : decode b_P_exploreFrom 15 = .ok (.invokevirtual 49, 3) := by decide +kernel
theorem d_P_exploreFrom_18 : decode b_P_exploreFrom 18 = .ok (.ifCond .eq 20, 3) := by decide +kernel
theorem d_P_exploreFrom_21 : decode b_P_exploreFrom 21 = .ok (.aload_n 3, 1) := by decide +kernel
theorem d_P_exploreFrom_22 : decode b_P_exploreFrom 22 = .ok (.aload_n 0, 1) := by decide +kernel
theorem d_P_exploreFrom_23 : decode b_P_exploreFrom 23 = .ok (.getfield 15, 3) := by decide +kernel
theorem d_P_exploreFrom_26 : decode b_P_exploreFrom 26 = .ok (.iload_n 1, 1) := by decide +kernel
theorem d_P_exploreFrom_27 : decode b_P_exploreFrom 27 = .ok (.iaload, 1) := by decide +kernel
theorem d_P_exploreFrom_28 : decode b_P_exploreFrom 28 = .ok (.invokevirtual 49, 3) := by decide +kernel
theorem d_P_exploreFrom_31 : decode b_P_exploreFrom 31 = .ok (.ifCond .eq 7, 3) := by decide +kernel
theorem d_P_exploreFrom_34 : decode b_P_exploreFrom 34 = .ok (.iconst 1, 1) := by decide +kernel
theorem d_P_exploreFrom_35 : decode b_P_exploreFrom 35 = .ok (.goto 4, 3) := by decide +kernel
theorem d_P_exploreFrom_38 : decode b_P_exploreFrom 38 = .ok (.iconst 0, 1) := by decide +kernel
theorem d_P_exploreFrom_39 : decode b_P_exploreFrom 39 = .ok (.bastore, 1) := by decide +kernel
theorem d_P_exploreFrom_40 : decode b_P_exploreFrom 40 = .ok (.aload_n 0, 1) := by decide +kernel
theorem d_P_exploreFrom_41 : decode b_P_exploreFrom 41 = .ok (.getfield 18, 3) := by decide +kernel
theorem d_P_exploreFrom_44 : decode b_P_exploreFrom 44 = .ok (.getfield 53, 3) := by decide +kernel
theorem d_P_exploreFrom_47 : decode b_P_exploreFrom 47 = .ok (.iload_n 1, 1) := by decide +kernel
theorem d_P_exploreFrom_48 : decode b_P_exploreFrom 48 = .ok (.iconst 1, 1) := by decide +kernel
theorem d_P_exploreFrom_49 : decode b_P_exploreFrom 49 = .ok (.bastore, 1) := by decide +kernel
theorem d_P_exploreFrom_50 : decode b_P_exploreFrom 50 = .ok (.iconst 0, 1) := by decide +kernel
theorem d_P_exploreFrom_51 : decode b_P_exploreFrom 51 = .ok (.istore 4, 2) := by decide +kernel
theorem d_P_exploreFrom_53 : decode b_P_exploreFrom 53 = .ok (.iload 4, 2) := by decide +kernel
theorem d_P_exploreFrom_55 : decode b_P_exploreFrom 55 = .ok (.bipush 12, 2) := by decide +kernel
theorem d_P_exploreFrom_57 : decode b_P_exploreFrom 57 = .ok (.if_icmp .ge 93, 3) := by decide +kernel
theorem d_P_exploreFrom_60 : decode b_P_exploreFrom 60 = .ok (.aload_n 2, 1) := by decide +kernel
theorem d_P_exploreFrom_61 : decode b_P_exploreFrom 61 = .ok (.aload_n 0, 1) := by decide +kernel
theorem d_P_exploreFrom_62 : decode b_P_exploreFrom 62 = .ok (.getfield 9, 3) := by decide +kernel
theorem d_P_exploreFrom_65 : decode b_P_exploreFrom 65 = .ok (.iload_n 1, 1) := by decide +kernel
theorem d_P_exploreFrom_66 : decode b_P_exploreFrom 66 = .ok (.iaload, 1) := by decide +kernel
theorem d_P_exploreFrom_67 : decode b_P_exploreFrom 67 = .ok (.iload 4, 2) := by decide +kernel
theorem d_P_exploreFrom_69 : decode b_P_exploreFrom 69 = .ok (.invokevirtual 56, 3) := by decide +kernel
theorem d_P_exploreFrom_72 : decode b_P_exploreFrom 72 = .ok (.istore 5, 2) := by decide +kernel
theorem d_P_exploreFrom_74 : decode b_P_exploreFrom 74 = .ok (.aload_n 3, 1) := by decide +kernel
theorem d_P_exploreFrom_75 : decode b_P_exploreFrom 75 = .ok (.aload_n 0, 1) := by decide +kernel
theorem d_P_exploreFrom_76 : decode b_P_exploreFrom 76 = .ok (.getfield 15, 3) := by decide +kernel
theorem d_P_exploreFrom_79 : decode b_P_exploreFrom 79 = .ok (.iload_n 1, 1) := by decide +kernel
theorem d_P_exploreFrom_80 : decode b_P_exploreFrom 80 = .ok (.iaload, 1) := by decide +kernel
theorem d_P_exploreFrom_81 : decode b_P_exploreFrom 81 = .ok (.iload 4, 2) := by decide +kernel
theorem d_P_exploreFrom_83 : decode b_P_exploreFrom 83 = .ok (.invokevirtual 56, 3) := by decide +kernel
theorem d_P_exploreFrom_86 : decode b_P_exploreFrom 86 = .ok (.istore 6, 2) := by decide +kernel
theorem d_P_exploreFrom_88 : decode b_P_exploreFrom 88 = .ok (.iload 5, 2) := by decide +kernel
theorem d_P_exploreFrom_90 : decode b_P_exploreFrom 90 = .ok (.ifCond .eq 54, 3) := by decide +kernel
theorem d_P_exploreFrom_93 : decode b_P_exploreFrom 93 = .ok (.iload 6, 2) := by decide +kernel
theorem d_P_exploreFrom_95 : decode b_P_exploreFrom 95 = .ok (.ifCond .eq 49, 3) := by decide +kernel
theorem d_P_exploreFrom_98 : decode b_P_exploreFrom 98 = .ok (.aload_n 0, 1) := by decide +kernel
theorem d_P_exploreFrom_99 : decode b_P_exploreFrom 99 = .ok (.getfield 18, 3) := by decide +kernel
theorem d_P_exploreFrom_102 : decode b_P_exploreFrom 102 = .ok (.iload_n 1, 1) := by decide +kernel
theorem d_P_exploreFrom_103 : decode b_P_exploreFrom 103 = .ok (.iload 4, 2) := by decide +kernel
theorem d_P_exploreFrom_105 : decode b_P_exploreFrom 105 = .ok (.aload_n 2, 1) := by decide +kernel
theorem d_P_exploreFrom_106 : decode b_P_exploreFrom 106 = .ok (.iload 5, 2) := by decide +kernel
theorem d_P_exploreFrom_108 : decode b_P_exploreFrom 108 = .ok (.aload_n 3, 1) := by decide +kernel
theorem d_P_exploreFrom_109 : decode b_P_exploreFrom 109 = .ok (.iload 6, 2) := by decide +kernel
theorem d_P_exploreFrom_111 : decode b_P_exploreFrom 111 = .ok (.invokestatic 22, 3) := by decide +kernel
theorem d_P_exploreFrom_114 : decode b_P_exploreFrom 114 = .ok (.invokevirtual 60, 3) := by decide +kernel
theorem d_P_exploreFrom_117 : decode b_P_exploreFrom 117 = .ok (.istore 7, 2) := by decide +kernel
theorem d_P_exploreFrom_119 : decode b_P_exploreFrom 119 = .ok (.iload 7, 2) := by decide +kernel
theorem d_P_exploreFrom_121 : decode b_P_exploreFrom 121 = .ok (.ifCond .ne 5, 3) := by decide +kernel
theorem d_P_exploreFrom_124 : decode b_P_exploreFrom 124 = .ok (.iconst 0, 1) := by decide +kernel
theorem d_P_exploreFrom_125 : decode b_P_exploreFrom 125 = .ok (.ireturn, 1) := by decide +kernel
theorem d_P_exploreFrom_126 : decode b_P_exploreFrom 126 = .ok (.aload_n 0, 1) := by decide +kernel
theorem d_P_exploreFrom_127 : decode b_P_exploreFrom 127 = .ok (.getfield 9, 3) := by decide +kernel
theorem d_P_exploreFrom_130 : decode b_P_exploreFrom 130 = .ok (.iload 7, 2) := by decide +kernel
theorem d_P_exploreFrom_132 : decode b_P_exploreFrom 132 = .ok (.iload 5, 2) := by decide +kernel
theorem d_P_exploreFrom_134 : decode b_P_exploreFrom 134 = .ok (.iastore, 1) := by decide +kernel
theorem d_P_exploreFrom_135 : decode b_P_exploreFrom 135 = .ok (.aload_n 0, 1) := by decide +kernel
theorem d_P_exploreFrom_136 : decode b_P_exploreFrom 136 = .ok (.getfield 15, 3) := by decide +kernel
theorem d_P_exploreFrom_139 : decode b_P_exploreFrom 139 = .ok (.iload 7, 2) := by decide +kernel
theorem d_P_exploreFrom_141 : decode b_P_exploreFrom 141 = .ok (.iload 6, 2) := by decide +kernel
theorem d_P_exploreFrom_143 : decode b_P_exploreFrom 143 = .ok (.iastore, 1) := by decide +kernel
theorem d_P_exploreFrom_144 : decode b_P_exploreFrom 144 = .ok (.iinc 4 1, 3) := by decide +kernel
theorem d_P_exploreFrom_147 : decode b_P_exploreFrom 147 = .ok (.goto (-94), 3) := by decide +kernel
theorem d_P_exploreFrom_150 : decode b_P_exploreFrom 150 = .ok (.iconst 1, 1) := by decide +kernel
theorem d_P_exploreFrom_151 : decode b_P_exploreFrom 151 = .ok (.ireturn, 1) := by decide +kernel
theorem d_P_haveDeadEnd_0 : decode b_P_haveDeadEnd 0 = .ok (.aload_n 0, 1) := by decide +kernel
theorem d_P_haveDeadEnd_1 : decode b_P_haveDeadEnd 1 = .ok (.getfield 18, 3) := by decide +kernel
theorem d_P_haveDeadEnd_4 : decode b_P_haveDeadEnd 4 = .ok (.invokevirtual 64, 3) := by decide +kernel
theorem d_P_haveDeadEnd_7 : decode b_P_haveDeadEnd 7 = .ok (.aload_n 0, 1) := by decide +kernel
theorem d_P_haveDeadEnd_8 : decode b_P_haveDeadEnd 8 = .ok (.getfield 18, 3) := by decide +kernel
theorem d_P_haveDeadEnd_11 : decode b_P_haveDeadEnd 11 = .ok (.invokevirtual 67, 3) := by decide +kernel
theorem d_P_haveDeadEnd_14 : decode b_P_haveDeadEnd 14 = .ok (.ireturn, 1) := by decide +kernel
theorem d_P_init_0 : decode b_P_init 0 = .ok (.aload_n 0, 1) := by decide +kernel
theorem d_P_init_1 : decode b_P_init 1 = .ok (.invokespecial 3, 3) := by decide +kernel
theorem d_P_init_4 : decode b_P_init 4 = .ok (.aload_n 0, 1) := by decide +kernel
theorem d_P_init_5 : decode b_P_init 5 = .ok (.sipush 201, 3) := by decide +kernel
theorem d_P_init_8 : decode b_P_init 8 = .ok (.newarray .int, 2) := by decide +kernel
theorem d_P_init_10 : decode b_P_init 10 = .ok (.putfield 9, 3) := by decide +kernel
theorem d_P_init_13 : decode b_P_init 13 = .ok (.aload_n 0, 1) := by decide +kernel
theorem d_P_init_14 : decode b_P_init 14 = .ok (.sipush 201, 3) := by decide +kernel
theorem d_P_init_17 : decode b_P_init 17 = .ok (.newarray .int, 2) := by decide +kernel
theorem d_P_init_19 : decode b_P_init 19 = .ok (.putfield 15, 3) := by decide +kernel
theorem d_P_init_22 : decode b_P_init 22 = .ok (.aload_n 0, 1) := by decide +kernel
theorem d_P_init_23 : decode b_P_init 23 = .ok (.aload_n 1, 1) := by decide +kernel
theorem d_P_init_24 : decode b_P_init 24 = .ok (.putfield 18, 3) := by decide +kernel
theorem d_P_init_27 : decode b_P_init 27 = .ok (.return_, 1) := by decide +kernel
theorem d_P_pairCode_0 : decode b_P_pairCode 0 = .ok (.aload_n 0, 1) := by decide +kernel
theorem d_P_pairCode_1 : decode b_P_pairCode 1 = .ok (.getfield 40, 3) := by decide +kernel
theorem d_P_pairCode_4 : decode b_P_pairCode 4 = .ok (.iload_n 1, 1) := by decide +kernel
theorem d_P_pairCode_5 : decode b_P_pairCode 5 = .ok (.iaload, 1) := by decide +kernel
theorem d_P_pairCode_6 : decode b_P_pairCode 6 = .ok (.aload_n 2, 1) := by decide +kernel
theorem d_P_pairCode_7 : decode b_P_pairCode 7 = .ok (.getfield 40, 3) := by decide +kernel
theorem d_P_pairCode_10 : decode b_P_pairCode 10 = .ok (.iload_n 3, 1) := by decide +kernel
theorem d_P_pairCode_11 : decode b_P_pairCode 11 = .ok (.iaload, 1) := by decide +kernel
theorem d_P_pairCode_12 : decode b_P_pairCode 12 = .ok (.ior, 1) := by decide +kernel
theorem d_P_pairCode_13 : decode b_P_pairCode 13 = .ok (.ireturn, 1) := by decide +kernel
theorem d_S_init_0 : decode b_S_init 0 = .ok (.aload_n 0, 1) := by decide +kernel
theorem d_S_init_1 : decode b_S_init 1 = .ok (.invokespecial 3, 3) := by decide +kernel
theorem d_S_init_4 : decode b_S_init 4 = .ok (.aload_n 0, 1) := by decide +kernel
theorem d_S_init_5 : decode b_S_init 5 = .ok (.sipush 201, 3) := by decide +kernel
theorem d_S_init_8 : decode b_S_init 8 = .ok (.newarray .int, 2) := by decide +kernel
theorem d_S_init_10 : decode b_S_init 10 = .ok (.putfield 9, 3) := by decide +kernel
theorem d_S_init_13 : decode b_S_init 13 = .ok (.aload_n 0, 1) := by decide +kernel
theorem d_S_init_14 : decode b_S_init 14 = .ok (.sipush 201, 3) := by decide +kernel
theorem d_S_init_17 : decode b_S_init 17 = .ok (.newarray .int, 2) := by decide +kernel
theorem d_S_init_19 : decode b_S_init 19 = .ok (.putfield 15, 3) := by decide +kernel
theorem d_S_init_22 : decode b_S_init 22 = .ok (.aload_n 0, 1) := by decide +kernel
theorem d_S_init_23 : decode b_S_init 23 = .ok (.sipush 201, 3) := by decide +kernel
theorem d_S_init_26 : decode b_S_init 26 = .ok (.newarray .int, 2) := by decide +kernel
theorem d_S_init_28 : decode b_S_init 28 = .ok (.putfield 18, 3) := by decide +kernel
theorem d_S_init_31 : decode b_S_init 31 = .ok (.aload_n 0, 1) := by decide +kernel
theorem d_S_init_32 : decode b_S_init 32 = .ok (.sipush 201, 3) := by decide +kernel
theorem d_S_init_35 : decode b_S_init 35 = .ok (.newarray .int, 2) := by decide +kernel
theorem d_S_init_37 : decode b_S_init 37 = .ok (.putfield 21, 3) := by decide +kernel
theorem d_S_init_40 : decode b_S_init 40 = .ok (.aload_n 0, 1) := by decide +kernel
theorem d_S_init_41 : decode b_S_init 41 = .ok (.sipush 2412, 3) := by decide +kernel
theorem d_S_init_44 : decode b_S_init 44 = .ok (.newarray .int, 2) := by decide +kernel
theorem d_S_init_46 : decode b_S_init 46 = .ok (.putfield 24, 3) := by decide +kernel
theorem d_S_init_49 : decode b_S_init 49 = .ok (.return_, 1) := by decide +kernel
theorem d_S_isMarked_0 : decode b_S_isMarked 0 = .ok (.aload_n 0, 1) := by decide +kernel
theorem d_S_isMarked_1 : decode b_S_isMarked 1 = .ok (.getfield 21, 3) := by decide +kernel
theorem d_S_isMarked_4 : decode b_S_isMarked 4 = .ok (.iload_n 1, 1) := by decide +kernel
theorem d_S_isMarked_5 : decode b_S_isMarked 5 = .ok (.iaload, 1) := by decide +kernel
theorem d_S_isMarked_6 : decode b_S_isMarked 6 = .ok (.ifCond .ne 7, 3) := by decide +kernel
theorem d_S_isMarked_9 : decode b_S_isMarked 9 = .ok (.iconst 1, 1) := by decide +kernel
theorem d_S_isMarked_10 : decode b_S_isMarked 10 = .ok (.goto 4, 3) := by decide +kernel
theorem d_S_isMarked_13 : decode b_S_isMarked 13 = .ok (.iconst 0, 1) := by decide +kernel
theorem d_S_isMarked_14 : decode b_S_isMarked 14 = .ok (.ireturn, 1) := by decide +kernel
theorem d_S_target_0 : decode b_S_target 0 = .ok (.aload_n 0, 1) := by decide +kernel
theorem d_S_target_1 : decode b_S_target 1 = .ok (.getfield 24, 3) := by decide +kernel
theorem d_S_target_4 : decode b_S_target 4 = .ok (.iload_n 1, 1) := by decide +kernel
theorem d_S_target_5 : decode b_S_target 5 = .ok (.bipush 12, 2) := by decide +kernel
theorem d_S_target_7 : decode b_S_target 7 = .ok (.imul, 1) := by decide +kernel
theorem d_S_target_8 : decode b_S_target 8 = .ok (.iload_n 2, 1) := by decide +kernel
theorem d_S_target_9 : decode b_S_target 9 = .ok (.iadd, 1) := by decide +kernel
theorem d_S_target_10 : decode b_S_target 10 = .ok (.iaload, 1) := by decide +kernel
theorem d_S_target_11 : decode b_S_target 11 = .ok (.ireturn, 1) := by decide +kernel
theorem d_S_verdict_0 : decode b_S_verdict 0 = .ok (.aload_n 0, 1) := by decide +kernel
theorem d_S_verdict_1 : decode b_S_verdict 1 = .ok (.iload_n 1, 1) := by decide +kernel
theorem d_S_verdict_2 : decode b_S_verdict 2 = .ok (.iload_n 2, 1) := by decide +kernel
theorem d_S_verdict_3 : decode b_S_verdict 3 = .ok (.invokevirtual 27, 3) := by decide +kernel
theorem d_S_verdict_6 : decode b_S_verdict 6 = .ok (.ifCond .eq 5, 3) := by decide +kernel
theorem d_S_verdict_9 : decode b_S_verdict 9 = .ok (.iconst 0, 1) := by decide +kernel
theorem d_S_verdict_10 : decode b_S_verdict 10 = .ok (.ireturn, 1) := by decide +kernel
theorem d_S_verdict_11 : decode b_S_verdict 11 = .ok (.aload_n 0, 1) := by decide +kernel
theorem d_S_verdict_12 : decode b_S_verdict 12 = .ok (.getfield 18, 3) := by decide +kernel
theorem d_S_verdict_15 : decode b_S_verdict 15 = .ok (.iload_n 1, 1) := by decide +kernel
theorem d_S_verdict_16 : decode b_S_verdict 16 = .ok (.iaload, 1) := by decide +kernel
theorem d_S_verdict_17 : decode b_S_verdict 17 = .ok (.iload_n 2, 1) := by decide +kernel
theorem d_S_verdict_18 : decode b_S_verdict 18 = .ok (.invokestatic 31, 3) := by decide +kernel
theorem d_S_verdict_21 : decode b_S_verdict 21 = .ok (.ifCond .eq 7, 3) := by decide +kernel
theorem d_S_verdict_24 : decode b_S_verdict 24 = .ok (.iconst 1, 1) := by decide +kernel
theorem d_S_verdict_25 : decode b_S_verdict 25 = .ok (.goto 4, 3) := by decide +kernel
theorem d_S_verdict_28 : decode b_S_verdict 28 = .ok (.iconst 2, 1) := by decide +kernel
theorem d_S_verdict_29 : decode b_S_verdict 29 = .ok (.ireturn, 1) := by decide +kernel
end
section
theorem d_C_act_0 : decode b_C_act 0 = .ok (.aload_n 0, 1) := by decide +kernel
theorem d_C_act_1 : decode b_C_act 1 = .ok (.invokevirtual 132, 3) := by decide +kernel
theorem d_C_act_4 : decode b_C_act 4 = .ok (.iload_n 1, 1) := by decide +kernel
theorem d_C_act_5 : decode b_C_act 5 = .ok (.invokestatic 68, 3) := by decide +kernel
theorem d_C_act_8 : decode b_C_act 8 = .ok (.aload_n 0, 1) := by decide +kernel
theorem d_C_act_9 : decode b_C_act 9 = .ok (.getfield 40, 3) := by decide +kernel
theorem d_C_act_12 : decode b_C_act 12 = .ok (.aload_n 0, 1) := by decide +kernel
theorem d_C_act_13 : decode b_C_act 13 = .ok (.getfield 118, 3) := by decide +kernel
theorem d_C_act_16 : decode b_C_act 16 = .ok (.iload_n 1, 1) := by decide +kernel
theorem d_C_act_17 : decode b_C_act 17 = .ok (.invokevirtual 126, 3) := by decide +kernel
theorem d_C_act_20 : decode b_C_act 20 = .ok (.istore_n 2, 1) := by decide +kernel
theorem d_C_act_21 : decode b_C_act 21 = .ok (.iload_n 2, 1) := by decide +kernel
theorem d_C_act_22 : decode b_C_act 22 = .ok (.ifCond .ne 21, 3) := by decide +kernel
theorem d_C_act_25 : decode b_C_act 25 = .ok (.aload_n 0, 1) := by decide +kernel
theorem d_C_act_26 : decode b_C_act 26 = .ok (.aload_n 0, 1) := by decide +kernel
theorem d_C_act_27 : decode b_C_act 27 = .ok (.getfield 40, 3) := by decide +kernel
theorem d_C_act_30 : decode b_C_act 30 = .ok (.aload_n 0, 1) := by decide +kernel
theorem d_C_act_31 : decode b_C_act 31 = .ok (.getfield 118, 3) := by decide +kernel
theorem d_C_act_34 : decode b_C_act 34 = .ok (.iload_n 1, 1) := by decide +kernel
theorem d_C_act_35 : decode b_C_act 35 = .ok (.invokevirtual 129, 3) := by decide +kernel
theorem d_C_act_38 : decode b_C_act 38 = .ok (.putfield 118, 3) := by decide +kernel
theorem d_C_act_41 : decode b_C_act 41 = .ok (.iconst 2, 1) := by decide +kernel
theorem d_C_act_42 : decode b_C_act 42 = .ok (.ireturn, 1) := by decide +kernel
theorem d_C_act_43 : decode b_C_act 43 = .ok (.iload_n 2, 1) := by decide +kernel
theorem d_C_act_44 : decode b_C_act 44 = .ok (.iconst 1, 1) := by decide +kernel
theorem d_C_act_45 : decode b_C_act 45 = .ok (.if_icmp .ne 7, 3) := by decide +kernel
theorem d_C_act_48 : decode b_C_act 48 = .ok (.iconst 1, 1) := by decide +kernel
theorem d_C_act_49 : decode b_C_act 49 = .ok (.goto 4, 3) := by decide +kernel
theorem d_C_act_52 : decode b_C_act 52 = .ok (.iconst 0, 1) := by decide +kernel
theorem d_C_act_53 : decode b_C_act 53 = .ok (.ireturn, 1) := by decide +kernel
theorem d_C_allowed_0 : decode b_C_allowed 0 = .ok (.aload_n 0, 1) := by decide +kernel
theorem d_C_allowed_1 : decode b_C_allowed 1 = .ok (.invokevirtual 132, 3) := by decide +kernel
theorem d_C_allowed_4 : decode b_C_allowed 4 = .ok (.iconst 0, 1) := by decide +kernel
theorem d_C_allowed_5 : decode b_C_allowed 5 = .ok (.istore_n 1, 1) := by decide +kernel
theorem d_C_allowed_6 : decode b_C_allowed 6 = .ok (.iconst 0, 1) := by decide +kernel
theorem d_C_allowed_7 : decode b_C_allowed 7 = .ok (.istore_n 2, 1) := by decide +kernel
theorem d_C_allowed_8 : decode b_C_allowed 8 = .ok (.iload_n 2, 1) := by decide +kernel
theorem d_C_allowed_9 : decode b_C_allowed 9 = .ok (.bipush 12, 2) := by decide +kernel
theorem d_C_allowed_11 : decode b_C_allowed 11 = .ok (.if_icmp .ge 30, 3) := by decide +kernel
theorem d_C_allowed_14 : decode b_C_allowed 14 = .ok (.aload_n 0, 1) := by decide +kernel
theorem d_C_allowed_15 : decode b_C_allowed 15 = .ok (.getfield 40, 3) := by decide +kernel
theorem d_C_allowed_18 : decode b_C_allowed 18 = .ok (.aload_n 0, 1) := by decide +kernel
theorem d_C_allowed_19 : decode b_C_allowed 19 = .ok (.getfield 118, 3) := by decide +kernel
theorem d_C_allowed_22 : decode b_C_allowed 22 = .ok (.iload_n 2, 1) := by decide +kernel
theorem d_C_allowed_23 : decode b_C_allowed 23 = .ok (.invokevirtual 126, 3) := by decide +kernel
theorem d_C_allowed_26 : decode b_C_allowed 26 = .ok (.ifCond .ne 9, 3) := by decide +kernel
theorem d_C_allowed_29 : decode b_C_allowed 29 = .ok (.iload_n 1, 1) := by decide +kernel
theorem d_C_allowed_30 : decode b_C_allowed 30 = .ok (.iconst 1, 1) := by decide +kernel
theorem d_C_allowed_31 : decode b_C_allowed 31 = .ok (.iload_n 2, 1) := by decide +kernel
theorem d_C_allowed_32 : decode b_C_allowed 32 = .ok (.ishl, 1) := by decide +kernel
theorem d_C_allowed_33 : decode b_C_allowed 33 = .ok (.ior, 1) := by decide +kernel
theorem d_C_allowed_34 : decode b_C_allowed 34 = .ok (.istore_n 1, 1) := by decide +kernel
theorem d_C_allowed_35 : decode b_C_allowed 35 = .ok (.iinc 2 1, 3) := by decide +kernel
theorem d_C_allowed_38 : decode b_C_allowed 38 = .ok (.goto (-30), 3) := by decide +kernel
theorem d_C_allowed_41 : decode b_C_allowed 41 = .ok (.iload_n 1, 1) := by decide +kernel
theorem d_C_allowed_42 : decode b_C_allowed 42 = .ok (.ireturn, 1) := by decide +kernel
theorem d_C_automaton_0 : decode b_C_automaton 0 = .ok (.iload_n 1, 1) := by decide +kernel
theorem d_C_automaton_1 : decode b_C_automaton 1 = .ok (.iconst 1, 1) := by decide +kernel
theorem d_C_automaton_2 : decode b_C_automaton 2 = .ok (.if_icmp .lt 18, 3) := by decide +kernel
theorem d_C_automaton_5 : decode b_C_automaton 5 = .ok (.iload_n 1, 1) := by decide +kernel
theorem d_C_automaton_6 : decode b_C_automaton 6 = .ok (.bipush 6, 2) := by decide +kernel
theorem d_C_automaton_8 : decode b_C_automaton 8 = .ok (.if_icmp .gt 12, 3) := by decide +kernel
theorem d_C_automaton_11 : decode b_C_automaton 11 = .ok (.iload_n 2, 1) := by decide +kernel
theorem d_C_automaton_12 : decode b_C_automaton 12 = .ok (.ifCond .eq 16, 3) := by decide +kernel
theorem d_C_automaton_15 : decode b_C_automaton 15 = .ok (.iload_n 2, 1) := by decide +kernel
theorem d_C_automaton_16 : decode b_C_automaton 16 = .ok (.iconst 1, 1) := by decide +kernel
theorem d_C_automaton_17 : decode b_C_automaton 17 = .ok (.if_icmp .eq 11, 3) := by decide +kernel
theorem d_C_automaton_20 : decode b_C_automaton 20 = .ok (.new 50, 3) := by decide +kernel
theorem d_C_automaton_23 : decode b_C_automaton 23 = .ok (.dup, 1) := by decide +kernel
theorem d_C_automaton_24 : decode b_C_automaton 24 = .ok (.invokespecial 52, 3) := by decide +kernel
theorem d_C_automaton_27 : decode b_C_automaton 27 = .ok (.athrow, 1) := by decide +kernel
theorem d_C_automaton_28 : decode b_C_automaton 28 = .ok (.aload_n 0, 1) := by decide +kernel
theorem d_C_automaton_29 : decode b_C_automaton 29 = .ok (.getfield 12, 3) := by decide +kernel
theorem d_C_automaton_32 : decode b_C_automaton 32 = .ok (.getfield 53, 3) := by decide +kernel
theorem d_C_automaton_35 : decode b_C_automaton 35 = .ok (.iconst 4, 1) := by decide +kernel
theorem d_C_automaton_36 : decode b_C_automaton 36 = .ok (.if_icmp .ne 11, 3) := by decide +kernel
theorem d_C_automaton_39 : decode b_C_automaton 39 = .ok (.new 57, 3) := by decide +kernel
theorem d_C_automaton_42 : decode b_C_automaton 42 = .ok (.dup, 1) := by decide +kernel
theorem d_C_automaton_43 : decode b_C_automaton 43 = .ok (.invokespecial 59, 3) := by decide +kernel
theorem d_C_automaton_46 : decode b_C_automaton 46 = .ok (.athrow, 1) := by decide +kernel
theorem d_C_automaton_47 : decode b_C_automaton 47 = .ok (.aload_n 0, 1) := by decide +kernel
theorem d_C_automaton_48 : decode b_C_automaton 48 = .ok (.iconst 0, 1) := by decide +kernel
theorem d_C_automaton_49 : decode b_C_automaton 49 = .ok (.putfield 60, 3) := by decide +kernel
theorem d_C_automaton_52 : decode b_C_automaton 52 = .ok (.aload_n 0, 1) := by decide +kernel
theorem d_C_automaton_53 : decode b_C_automaton 53 = .ok (.getfield 12, 3) := by decide +kernel
theorem d_C_automaton_56 : decode b_C_automaton 56 = .ok (.iload_n 1, 1) := by decide +kernel
theorem d_C_automaton_57 : decode b_C_automaton 57 = .ok (.iload_n 2, 1) := by decide +kernel
theorem d_C_automaton_58 : decode b_C_automaton 58 = .ok (.invokevirtual 64, 3) := by decide +kernel
theorem d_C_automaton_61 : decode b_C_automaton 61 = .ok (.ireturn, 1) := by decide +kernel
theorem d_C_clear_0 : decode b_C_clear 0 = .ok (.aload_n 0, 1) := by decide +kernel
theorem d_C_clear_1 : decode b_C_clear 1 = .ok (.iconst 0, 1) := by decide +kernel
theorem d_C_clear_2 : decode b_C_clear 2 = .ok (.putfield 60, 3) := by decide +kernel
theorem d_C_clear_5 : decode b_C_clear 5 = .ok (.aload_n 0, 1) := by decide +kernel
theorem d_C_clear_6 : decode b_C_clear 6 = .ok (.getfield 12, 3) := by decide +kernel
theorem d_C_clear_9 : decode b_C_clear 9 = .ok (.invokevirtual 104, 3) := by decide +kernel
theorem d_C_clear_12 : decode b_C_clear 12 = .ok (.return_, 1) := by decide +kernel
theorem d_C_conflict_0 : decode b_C_conflict 0 = .ok (.aload_n 0, 1) := by decide +kernel
theorem d_C_conflict_1 : decode b_C_conflict 1 = .ok (.getfield 12, 3) := by decide +kernel
theorem d_C_conflict_4 : decode b_C_conflict 4 = .ok (.iload_n 1, 1) := by decide +kernel
theorem d_C_conflict_5 : decode b_C_conflict 5 = .ok (.invokevirtual 166, 3) := by decide +kernel
theorem d_C_conflict_8 : decode b_C_conflict 8 = .ok (.ifCond .eq 14, 3) := by decide +kernel
theorem d_C_conflict_11 : decode b_C_conflict 11 = .ok (.aload_n 0, 1) := by decide +kernel
theorem d_C_conflict_12 : decode b_C_conflict 12 = .ok (.getfield 12, 3) := by decide +kernel
theorem d_C_conflict_15 : decode b_C_conflict 15 = .ok (.iload_n 2, 1) := by decide +kernel
theorem d_C_conflict_16 : decode b_C_conflict 16 = .ok (.invokevirtual 166, 3) := by decide +kernel
theorem d_C_conflict_19 : decode b_C_conflict 19 = .ok (.ifCond .ne 11, 3) := by decide +kernel
theorem d_C_conflict_22 : decode b_C_conflict 22 = .ok (.new 50, 3) := by decide +kernel
theorem d_C_conflict_25 : decode b_C_conflict 25 = .ok (.dup, 1) := by decide +kernel
theorem d_C_conflict_26 : decode b_C_conflict 26 = .ok (.invokespecial 52, 3) := by decide +kernel
theorem d_C_conflict_29 : decode b_C_conflict 29 = .ok (.athrow, 1) := by decide +kernel
theorem d_C_conflict_30 : decode b_C_conflict 30 = .ok (.aload_n 0, 1) := by decide +kernel
theorem d_C_conflict_31 : decode b_C_conflict 31 = .ok (.iload_n 1, 1) := by decide +kernel
theorem d_C_conflict_32 : decode b_C_conflict 32 = .ok (.aload_n 0, 1) := by decide +kernel
theorem d_C_conflict_33 : decode b_C_conflict 33 = .ok (.getfield 44, 3) := by decide +kernel
theorem d_C_conflict_36 : decode b_C_conflict 36 = .ok (.invokevirtual 169, 3) := by decide +kernel
theorem d_C_conflict_39 : decode b_C_conflict 39 = .ok (.ifCond .eq 15, 3) := by decide +kernel
theorem d_C_conflict_42 : decode b_C_conflict 42 = .ok (.aload_n 0, 1) := by decide +kernel
theorem d_C_conflict_43 : decode b_C_conflict 43 = .ok (.iload_n 2, 1) := by decide +kernel
theorem d_C_conflict_44 : decode b_C_conflict 44 = .ok (.aload_n 0, 1) := by decide +kernel
theorem d_C_conflict_45 : decode b_C_conflict 45 = .ok (.getfield 47, 3) := by decide +kernel
theorem d_C_conflict_48 : decode b_C_conflict 48 = .ok (.invokevirtual 169, 3) := by decide +kernel
theorem d_C_conflict_51 : decode b_C_conflict 51 = .ok (.ifCond .ne 5, 3) := by decide +kernel
theorem d_C_conflict_54 : decode b_C_conflict 54 = .ok (.iconst (-1), 1) := by decide +kernel
theorem d_C_conflict_55 : decode b_C_conflict 55 = .ok (.ireturn, 1) := by decide +kernel
theorem d_C_conflict_56 : decode b_C_conflict 56 = .ok (.aload_n 0, 1) := by decide +kernel
theorem d_C_conflict_57 : decode b_C_conflict 57 = .ok (.getfield 33, 3) := by decide +kernel
theorem d_C_conflict_60 : decode b_C_conflict 60 = .ok (.aload_n 0, 1) := by decide +kernel
theorem d_C_conflict_61 : decode b_C_conflict 61 = .ok (.getfield 44, 3) := by decide +kernel
theorem d_C_conflict_64 : decode b_C_conflict 64 = .ok (.aload_n 0, 1) := by decide +kernel
theorem d_C_conflict_65 : decode b_C_conflict 65 = .ok (.getfield 47, 3) := by decide +kernel
theorem d_C_conflict_68 : decode b_C_conflict 68 = .ok (.invokevirtual 172, 3) := by decide +kernel
theorem d_C_conflict_71 : decode b_C_conflict 71 = .ok (.ifCond .ne 5, 3) := by decide +kernel
theorem d_C_conflict_74 : decode b_C_conflict 74 = .ok (.iconst (-1), 1) := by decide +kernel
theorem d_C_conflict_75 : decode b_C_conflict 75 = .ok (.ireturn, 1) := by decide +kernel
theorem d_C_conflict_76 : decode b_C_conflict 76 = .ok (.aload_n 0, 1) := by decide +kernel
theorem d_C_conflict_77 : decode b_C_conflict 77 = .ok (.getfield 33, 3) := by decide +kernel
theorem d_C_conflict_80 : decode b_C_conflict 80 = .ok (.invokevirtual 176, 3) := by decide +kernel
theorem d_C_conflict_83 : decode b_C_conflict 83 = .ok (.ifCond .eq 7, 3) := by decide +kernel
theorem d_C_conflict_86 : decode b_C_conflict 86 = .ok (.iconst 1, 1) := by decide +kernel
theorem d_C_conflict_87 : decode b_C_conflict 87 = .ok (.goto 4, 3) := by decide +kernel
theorem d_C_conflict_90 : decode b_C_conflict 90 = .ok (.iconst 0, 1) := by decide +kernel
theorem d_C_conflict_91 : decode b_C_conflict 91 = .ok (.ireturn, 1) := by decide +kernel
theorem d_C_edge_0 : decode b_C_edge 0 = .ok (.aload_n 0, 1) := by decide +kernel
theorem d_C_edge_1 : decode b_C_edge 1 = .ok (.getfield 12, 3) := by decide +kernel
theorem d_C_edge_4 : decode b_C_edge 4 = .ok (.iload_n 1, 1) := by decide +kernel
theorem d_C_edge_5 : decode b_C_edge 5 = .ok (.iload_n 2, 1) := by decide +kernel
theorem d_C_edge_6 : decode b_C_edge 6 = .ok (.invokevirtual 83, 3) := by decide +kernel
theorem d_C_edge_9 : decode b_C_edge 9 = .ok (.ifCond .eq 16, 3) := by decide +kernel
theorem d_C_edge_12 : decode b_C_edge 12 = .ok (.aload_n 0, 1) := by decide +kernel
theorem d_C_edge_13 : decode b_C_edge 13 = .ok (.getfield 12, 3) := by decide +kernel
theorem d_C_edge_16 : decode b_C_edge 16 = .ok (.iload_n 1, 1) := by decide +kernel
theorem d_C_edge_17 : decode b_C_edge 17 = .ok (.iload 4, 2) := by decide +kernel
theorem d_C_edge_19 : decode b_C_edge 19 = .ok (.invokevirtual 83, 3) := by decide +kernel
theorem d_C_edge_22 : decode b_C_edge 22 = .ok (.ifCond .ne 11, 3) := by decide +kernel
theorem d_C_edge_25 : decode b_C_edge 25 = .ok (.new 50, 3) := by decide +kernel
theorem d_C_edge_28 : decode b_C_edge 28 = .ok (.dup, 1) := by decide +kernel
theorem d_C_edge_29 : decode b_C_edge 29 = .ok (.invokespecial 52, 3) := by decide +kernel
theorem d_C_edge_32 : decode b_C_edge 32 = .ok (.athrow, 1) := by decide +kernel
theorem d_C_edge_33 : decode b_C_edge 33 = .ok (.iload_n 3, 1) := by decide +kernel
theorem d_C_edge_34 : decode b_C_edge 34 = .ok (.invokestatic 68, 3) := by decide +kernel
theorem d_C_edge_37 : decode b_C_edge 37 = .ok (.aload_n 0, 1) := by decide +kernel
theorem d_C_edge_38 : decode b_C_edge 38 = .ok (.getfield 12, 3) := by decide +kernel
theorem d_C_edge_41 : decode b_C_edge 41 = .ok (.iload_n 3, 1) := by decide +kernel
theorem d_C_edge_42 : decode b_C_edge 42 = .ok (.invokevirtual 72, 3) := by decide +kernel
theorem d_C_edge_45 : decode b_C_edge 45 = .ok (.ifCond .eq 20, 3) := by decide +kernel
theorem d_C_edge_48 : decode b_C_edge 48 = .ok (.aload_n 0, 1) := by decide +kernel
theorem d_C_edge_49 : decode b_C_edge 49 = .ok (.getfield 12, 3) := by decide +kernel
theorem d_C_edge_52 : decode b_C_edge 52 = .ok (.getfield 87, 3) := by decide +kernel
theorem d_C_edge_55 : decode b_C_edge 55 = .ok (.iload_n 1, 1) := by decide +kernel
theorem d_C_edge_56 : decode b_C_edge 56 = .ok (.aaload, 1) := by decide +kernel
theorem d_C_edge_57 : decode b_C_edge 57 = .ok (.iload_n 2, 1) := by decide +kernel
theorem d_C_edge_58 : decode b_C_edge 58 = .ok (.iload_n 3, 1) := by decide +kernel
theorem d_C_edge_59 : decode b_C_edge 59 = .ok (.invokevirtual 91, 3) := by decide +kernel
theorem d_C_edge_62 : decode b_C_edge 62 = .ok (.ifCond .eq 11, 3) := by decide +kernel
theorem d_C_edge_65 : decode b_C_edge 65 = .ok (.new 57, 3) := by decide +kernel
theorem d_C_edge_68 : decode b_C_edge 68 = .ok (.dup, 1) := by decide +kernel
theorem d_C_edge_69 : decode b_C_edge 69 = .ok (.invokespecial 59, 3) := by decide +kernel
theorem d_C_edge_72 : decode b_C_edge 72 = .ok (.athrow, 1) := by decide +kernel
theorem d_C_edge_73 : decode b_C_edge 73 = .ok (.aload_n 0, 1) := by decide +kernel
theorem d_C_edge_74 : decode b_C_edge 74 = .ok (.iconst 0, 1) := by decide +kernel
theorem d_C_edge_75 : decode b_C_edge 75 = .ok (.putfield 60, 3) := by decide +kernel
theorem d_C_edge_78 : decode b_C_edge 78 = .ok (.aload_n 0, 1) := by decide +kernel
theorem d_C_edge_79 : decode b_C_edge 79 = .ok (.getfield 12, 3) := by decide +kernel
theorem d_C_edge_82 : decode b_C_edge 82 = .ok (.getfield 87, 3) := by decide +kernel
theorem d_C_edge_85 : decode b_C_edge 85 = .ok (.iload_n 1, 1) := by decide +kernel
theorem d_C_edge_86 : decode b_C_edge 86 = .ok (.aaload, 1) := by decide +kernel
theorem d_C_edge_87 : decode b_C_edge 87 = .ok (.iload_n 2, 1) := by decide +kernel
theorem d_C_edge_88 : decode b_C_edge 88 = .ok (.iload_n 3, 1) := by decide +kernel
theorem d_C_edge_89 : decode b_C_edge 89 = .ok (.iload 4, 2) := by decide +kernel
theorem d_C_edge_91 : decode b_C_edge 91 = .ok (.invokevirtual 96, 3) := by decide +kernel
theorem d_C_edge_94 : decode b_C_edge 94 = .ok (.return_, 1) := by decide +kernel
theorem d_C_event_0 : decode b_C_event 0 = .ok (.iload_n 1, 1) := by decide +kernel
theorem d_C_event_1 : decode b_C_event 1 = .ok (.invokestatic 68, 3) := by decide +kernel
theorem d_C_event_4 : decode b_C_event 4 = .ok (.aload_n 0, 1) := by decide +kernel
theorem d_C_event_5 : decode b_C_event 5 = .ok (.getfield 12, 3) := by decide +kernel
theorem d_C_event_8 : decode b_C_event 8 = .ok (.iload_n 1, 1) := by decide +kernel
theorem d_C_event_9 : decode b_C_event 9 = .ok (.invokevirtual 72, 3) := by decide +kernel
theorem d_C_event_12 : decode b_C_event 12 = .ok (.ifCond .eq 25, 3) := by decide +kernel
theorem d_C_event_15 : decode b_C_event 15 = .ok (.aload_n 0, 1) := by decide +kernel
theorem d_C_event_16 : decode b_C_event 16 = .ok (.getfield 12, 3) := by decide +kernel
theorem d_C_event_19 : decode b_C_event 19 = .ok (.iload_n 1, 1) := by decide +kernel
theorem d_C_event_20 : decode b_C_event 20 = .ok (.invokevirtual 76, 3) := by decide +kernel
theorem d_C_event_23 : decode b_C_event 23 = .ok (.iload_n 2, 1) := by decide +kernel
theorem d_C_event_24 : decode b_C_event 24 = .ok (.if_icmp .eq 11, 3) := by decide +kernel
theorem d_C_event_27 : decode b_C_event 27 = .ok (.new 57, 3) := by decide +kernel
theorem d_C_event_30 : decode b_C_event 30 = .ok (.dup, 1) := by decide +kernel
theorem d_C_event_31 : decode b_C_event 31 = .ok (.invokespecial 59, 3) := by decide +kernel
theorem d_C_event_34 : decode b_C_event 34 = .ok (.athrow, 1) := by decide +kernel
theorem d_C_event_35 : decode b_C_event 35 = .ok (.iconst 0, 1) := by decide +kernel
theorem d_C_event_36 : decode b_C_event 36 = .ok (.ireturn, 1) := by decide +kernel
theorem d_C_event_37 : decode b_C_event 37 = .ok (.aload_n 0, 1) := by decide +kernel
theorem d_C_event_38 : decode b_C_event 38 = .ok (.iconst 0, 1) := by decide +kernel
theorem d_C_event_39 : decode b_C_event 39 = .ok (.putfield 60, 3) := by decide +kernel
theorem d_C_event_42 : decode b_C_event 42 = .ok (.aload_n 0, 1) := by decide +kernel
theorem d_C_event_43 : decode b_C_event 43 = .ok (.getfield 12, 3) := by decide +kernel
theorem d_C_event_46 : decode b_C_event 46 = .ok (.iload_n 1, 1) := by decide +kernel
theorem d_C_event_47 : decode b_C_event 47 = .ok (.iload_n 2, 1) := by decide +kernel
theorem d_C_event_48 : decode b_C_event 48 = .ok (.invokevirtual 79, 3) := by decide +kernel
theorem d_C_event_51 : decode b_C_event 51 = .ok (.iconst 1, 1) := by decide +kernel
theorem d_C_event_52 : decode b_C_event 52 = .ok (.ireturn, 1) := by decide +kernel
theorem d_C_hasBit_0 : decode b_C_hasBit 0 = .ok (.iload_n 0, 1) := by decide +kernel
theorem d_C_hasBit_1 : decode b_C_hasBit 1 = .ok (.iload_n 1, 1) := by decide +kernel
theorem d_C_hasBit_2 : decode b_C_hasBit 2 = .ok (.ishr, 1) := by decide +kernel
theorem d_C_hasBit_3 : decode b_C_hasBit 3 = .ok (.iconst 1, 1) := by decide +kernel
theorem d_C_hasBit_4 : decode b_C_hasBit 4 = .ok (.iand, 1) := by decide +kernel
theorem d_C_hasBit_5 : decode b_C_hasBit 5 = .ok (.iconst 1, 1) := by decide +kernel
theorem d_C_hasBit_6 : decode b_C_hasBit 6 = .ok (.if_icmp .ne 7, 3) := by decide +kernel
theorem d_C_hasBit_9 : decode b_C_hasBit 9 = .ok (.iconst 1, 1) := by decide +kernel
theorem d_C_hasBit_10 : decode b_C_hasBit 10 = .ok (.goto 4, 3) := by decide +kernel
theorem d_C_hasBit_13 : decode b_C_hasBit 13 = .ok (.iconst 0, 1) := by decide +kernel
theorem d_C_hasBit_14 : decode b_C_hasBit 14 = .ok (.ireturn, 1) := by decide +kernel
theorem d_C_here_0 : decode b_C_here 0 = .ok (.aload_n 0, 1) := by decide +kernel
theorem d_C_here_1 : decode b_C_here 1 = .ok (.invokevirtual 132, 3) := by decide +kernel
theorem d_C_here_4 : decode b_C_here 4 = .ok (.aload_n 0, 1) := by decide +kernel
theorem d_C_here_5 : decode b_C_here 5 = .ok (.getfield 118, 3) := by decide +kernel
theorem d_C_here_8 : decode b_C_here 8 = .ok (.ireturn, 1) := by decide +kernel
theorem d_C_home_0 : decode b_C_home 0 = .ok (.aload_n 0, 1) := by decide +kernel
theorem d_C_home_1 : decode b_C_home 1 = .ok (.invokevirtual 132, 3) := by decide +kernel
theorem d_C_home_4 : decode b_C_home 4 = .ok (.aload_n 0, 1) := by decide +kernel
theorem d_C_home_5 : decode b_C_home 5 = .ok (.getfield 40, 3) := by decide +kernel
theorem d_C_home_8 : decode b_C_home 8 = .ok (.getfield 180, 3) := by decide +kernel
theorem d_C_home_11 : decode b_C_home 11 = .ok (.aload_n 0, 1) := by decide +kernel
theorem d_C_home_12 : decode b_C_home 12 = .ok (.getfield 118, 3) := by decide +kernel
theorem d_C_home_15 : decode b_C_home 15 = .ok (.iaload, 1) := by decide +kernel
theorem d_C_home_16 : decode b_C_home 16 = .ok (.ireturn, 1) := by decide +kernel
theorem d_C_init_0 : decode b_C_init 0 = .ok (.aload_n 0, 1) := by decide +kernel
theorem d_C_init_1 : decode b_C_init 1 = .ok (.invokespecial 3, 3) := by decide +kernel
theorem d_C_init_4 : decode b_C_init 4 = .ok (.aload_n 0, 1) := by decide +kernel
theorem d_C_init_5 : decode b_C_init 5 = .ok (.new 9, 3) := by decide +kernel
theorem d_C_init_8 : decode b_C_init 8 = .ok (.dup, 1) := by decide +kernel
theorem d_C_init_9 : decode b_C_init 9 = .ok (.invokespecial 11, 3) := by decide +kernel
theorem d_C_init_12 : decode b_C_init 12 = .ok (.putfield 12, 3) := by decide +kernel
theorem d_C_init_15 : decode b_C_init 15 = .ok (.new 16, 3) := by decide +kernel
theorem d_C_init_18 : decode b_C_init 18 = .ok (.dup, 1) := by decide +kernel
theorem d_C_init_19 : decode b_C_init 19 = .ok (.invokespecial 18, 3) := by decide +kernel
theorem d_C_init_22 : decode b_C_init 22 = .ok (.astore_n 1, 1) := by decide +kernel
theorem d_C_init_23 : decode b_C_init 23 = .ok (.aload_n 0, 1) := by decide +kernel
theorem d_C_init_24 : decode b_C_init 24 = .ok (.new 19, 3) := by decide +kernel
theorem d_C_init_27 : decode b_C_init 27 = .ok (.dup, 1) := by decide +kernel
theorem d_C_init_28 : decode b_C_init 28 = .ok (.aload_n 0, 1) := by decide +kernel
theorem d_C_init_29 : decode b_C_init 29 = .ok (.getfield 12, 3) := by decide +kernel
theorem d_C_init_32 : decode b_C_init 32 = .ok (.aload_n 1, 1) := by decide +kernel
theorem d_C_init_33 : decode b_C_init 33 = .ok (.invokespecial 21, 3) := by decide +kernel
theorem d_C_init_36 : decode b_C_init 36 = .ok (.putfield 24, 3) := by decide +kernel
theorem d_C_init_39 : decode b_C_init 39 = .ok (.aload_n 0, 1) := by decide +kernel
theorem d_C_init_40 : decode b_C_init 40 = .ok (.new 28, 3) := by decide +kernel
theorem d_C_init_43 : decode b_C_init 43 = .ok (.dup, 1) := by decide +kernel
theorem d_C_init_44 : decode b_C_init 44 = .ok (.aload_n 1, 1) := by decide +kernel
theorem d_C_init_45 : decode b_C_init 45 = .ok (.invokespecial 30, 3) := by decide +kernel
theorem d_C_init_48 : decode b_C_init 48 = .ok (.putfield 33, 3) := by decide +kernel
theorem d_C_init_51 : decode b_C_init 51 = .ok (.aload_n 0, 1) := by decide +kernel
theorem d_C_init_52 : decode b_C_init 52 = .ok (.new 37, 3) := by decide +kernel
theorem d_C_init_55 : decode b_C_init 55 = .ok (.dup, 1) := by decide +kernel
theorem d_C_init_56 : decode b_C_init 56 = .ok (.invokespecial 39, 3) := by decide +kernel
theorem d_C_init_59 : decode b_C_init 59 = .ok (.putfield 40, 3) := by decide +kernel
theorem d_C_init_62 : decode b_C_init 62 = .ok (.aload_n 0, 1) := by decide +kernel
theorem d_C_init_63 : decode b_C_init 63 = .ok (.new 37, 3) := by decide +kernel
theorem d_C_init_66 : decode b_C_init 66 = .ok (.dup, 1) := by decide +kernel
theorem d_C_init_67 : decode b_C_init 67 = .ok (.invokespecial 39, 3) := by decide +kernel
theorem d_C_init_70 : decode b_C_init 70 = .ok (.putfield 44, 3) := by decide +kernel
theorem d_C_init_73 : decode b_C_init 73 = .ok (.aload_n 0, 1) := by decide +kernel
theorem d_C_init_74 : decode b_C_init 74 = .ok (.new 37, 3) := by decide +kernel
theorem d_C_init_77 : decode b_C_init 77 = .ok (.dup, 1) := by decide +kernel
theorem d_C_init_78 : decode b_C_init 78 = .ok (.invokespecial 39, 3) := by decide +kernel
theorem d_C_init_81 : decode b_C_init 81 = .ok (.putfield 47, 3) := by decide +kernel
theorem d_C_init_84 : decode b_C_init 84 = .ok (.return_, 1) := by decide +kernel
theorem d_C_leads_0 : decode b_C_leads 0 = .ok (.aload_n 0, 1) := by decide +kernel
theorem d_C_leads_1 : decode b_C_leads 1 = .ok (.iload_n 1, 1) := by decide +kernel
theorem d_C_leads_2 : decode b_C_leads 2 = .ok (.iload_n 2, 1) := by decide +kernel
theorem d_C_leads_3 : decode b_C_leads 3 = .ok (.invokevirtual 122, 3) := by decide +kernel
theorem d_C_leads_6 : decode b_C_leads 6 = .ok (.aload_n 0, 1) := by decide +kernel
theorem d_C_leads_7 : decode b_C_leads 7 = .ok (.getfield 40, 3) := by decide +kernel
theorem d_C_leads_10 : decode b_C_leads 10 = .ok (.iload_n 1, 1) := by decide +kernel
theorem d_C_leads_11 : decode b_C_leads 11 = .ok (.iload_n 2, 1) := by decide +kernel
theorem d_C_leads_12 : decode b_C_leads 12 = .ok (.invokevirtual 129, 3) := by decide +kernel
theorem d_C_leads_15 : decode b_C_leads 15 = .ok (.ireturn, 1) := by decide +kernel
theorem d_C_make_0 : decode b_C_make 0 = .ok (.aload_n 0, 1) := by decide +kernel
theorem d_C_make_1 : decode b_C_make 1 = .ok (.iconst 0, 1) := by decide +kernel
theorem d_C_make_2 : decode b_C_make 2 = .ok (.putfield 60, 3) := by decide +kernel
theorem d_C_make_5 : decode b_C_make 5 = .ok (.aload_n 0, 1) := by decide +kernel
theorem d_C_make_6 : decode b_C_make 6 = .ok (.getfield 12, 3) := by decide +kernel
theorem d_C_make_9 : decode b_C_make 9 = .ok (.invokevirtual 107, 3) := by decide +kernel
theorem d_C_make_12 : decode b_C_make 12 = .ok (.istore_n 1, 1) := by decide +kernel
theorem d_C_make_13 : decode b_C_make 13 = .ok (.aload_n 0, 1) := by decide +kernel
theorem d_C_make_14 : decode b_C_make 14 = .ok (.getfield 12, 3) := by decide +kernel
theorem d_C_make_17 : decode b_C_make 17 = .ok (.iload_n 1, 1) := by decide +kernel
theorem d_C_make_18 : decode b_C_make 18 = .ok (.invokevirtual 111, 3) := by decide +kernel
theorem d_C_make_21 : decode b_C_make 21 = .ok (.ifCond .ne 6, 3) := by decide +kernel
theorem d_C_make_24 : decode b_C_make 24 = .ok (.bipush (-2), 2) := by decide +kernel
theorem d_C_make_26 : decode b_C_make 26 = .ok (.ireturn, 1) := by decide +kernel
theorem d_C_make_27 : decode b_C_make 27 = .ok (.aload_n 0, 1) := by decide +kernel
theorem d_C_make_28 : decode b_C_make 28 = .ok (.getfield 24, 3) := by decide +kernel
theorem d_C_make_31 : decode b_C_make 31 = .ok (.iload_n 1, 1) := by decide +kernel
theorem d_C_make_32 : decode b_C_make 32 = .ok (.aload_n 0, 1) := by decide +kernel
theorem d_C_make_33 : decode b_C_make 33 = .ok (.getfield 40, 3) := by decide +kernel
theorem d_C_make_36 : decode b_C_make 36 = .ok (.invokevirtual 114, 3) := by decide +kernel
theorem d_C_make_39 : decode b_C_make 39 = .ok (.ifCond .ne 5, 3) := by decide +kernel
theorem d_C_make_42 : decode b_C_make 42 = .ok (.iconst (-1), 1) := by decide +kernel
theorem d_C_make_43 : decode b_C_make 43 = .ok (.ireturn, 1) := by decide +kernel
theorem d_C_make_44 : decode b_C_make 44 = .ok (.aload_n 0, 1) := by decide +kernel
theorem d_C_make_45 : decode b_C_make 45 = .ok (.iconst 1, 1) := by decide +kernel
theorem d_C_make_46 : decode b_C_make 46 = .ok (.putfield 60, 3) := by decide +kernel
theorem d_C_make_49 : decode b_C_make 49 = .ok (.aload_n 0, 1) := by decide +kernel
theorem d_C_make_50 : decode b_C_make 50 = .ok (.iconst 1, 1) := by decide +kernel
theorem d_C_make_51 : decode b_C_make 51 = .ok (.putfield 118, 3) := by decide +kernel
theorem d_C_make_54 : decode b_C_make 54 = .ok (.aload_n 0, 1) := by decide +kernel
theorem d_C_make_55 : decode b_C_make 55 = .ok (.getfield 40, 3) := by decide +kernel
theorem d_C_make_58 : decode b_C_make 58 = .ok (.getfield 121, 3) := by decide +kernel
theorem d_C_make_61 : decode b_C_make 61 = .ok (.ireturn, 1) := by decide +kernel
theorem d_C_many_0 : decode b_C_many 0 = .ok (.iload_n 1, 1) := by decide +kernel
theorem d_C_many_1 : decode b_C_many 1 = .ok (.ifCond .eq 16, 3) := by decide +kernel
theorem d_C_many_4 : decode b_C_many 4 = .ok (.iload_n 1, 1) := by decide +kernel
theorem d_C_many_5 : decode b_C_many 5 = .ok (.iconst 1, 1) := by decide +kernel
theorem d_C_many_6 : decode b_C_many 6 = .ok (.if_icmp .eq 11, 3) := by decide +kernel
theorem d_C_many_9 : decode b_C_many 9 = .ok (.new 50, 3) := by decide +kernel
theorem d_C_many_12 : decode b_C_many 12 = .ok (.dup, 1) := by decide +kernel
theorem d_C_many_13 : decode b_C_many 13 = .ok (.invokespecial 52, 3) := by decide +kernel
theorem d_C_many_16 : decode b_C_many 16 = .ok (.athrow, 1) := by decide +kernel
theorem d_C_many_17 : decode b_C_many 17 = .ok (.aload_n 0, 1) := by decide +kernel
theorem d_C_many_18 : decode b_C_many 18 = .ok (.invokevirtual 148, 3) := by decide +kernel
theorem d_C_many_21 : decode b_C_many 21 = .ok (.iload_n 1, 1) := by decide +kernel
theorem d_C_many_22 : decode b_C_many 22 = .ok (.ifCond .ne 13, 3) := by decide +kernel
theorem d_C_many_25 : decode b_C_many 25 = .ok (.aload_n 0, 1) := by decide +kernel
theorem d_C_many_26 : decode b_C_many 26 = .ok (.getfield 40, 3) := by decide +kernel
theorem d_C_many_29 : decode b_C_many 29 = .ok (.getfield 151, 3) := by decide +kernel
theorem d_C_many_32 : decode b_C_many 32 = .ok (.goto 10, 3) := by decide +kernel
theorem d_C_many_35 : decode b_C_many 35 = .ok (.aload_n 0, 1) := by decide +kernel
theorem d_C_many_36 : decode b_C_many 36 = .ok (.getfield 40, 3) := by decide +kernel
theorem d_C_many_39 : decode b_C_many 39 = .ok (.getfield 154, 3) := by decide +kernel
theorem d_C_many_42 : decode b_C_many 42 = .ok (.ireturn, 1) := by decide +kernel
theorem d_C_part_0 : decode b_C_part 0 = .ok (.aload_n 0, 1) := by decide +kernel
theorem d_C_part_1 : decode b_C_part 1 = .ok (.invokevirtual 132, 3) := by decide +kernel
theorem d_C_part_4 : decode b_C_part 4 = .ok (.aload_n 0, 1) := by decide +kernel
theorem d_C_part_5 : decode b_C_part 5 = .ok (.iload_n 1, 1) := by decide +kernel
theorem d_C_part_6 : decode b_C_part 6 = .ok (.invokevirtual 135, 3) := by decide +kernel
theorem d_C_part_9 : decode b_C_part 9 = .ok (.aload_n 0, 1) := by decide +kernel
theorem d_C_part_10 : decode b_C_part 10 = .ok (.getfield 12, 3) := by decide +kernel
theorem d_C_part_13 : decode b_C_part 13 = .ok (.iload_n 2, 1) := by decide +kernel
theorem d_C_part_14 : decode b_C_part 14 = .ok (.invokevirtual 138, 3) := by decide +kernel
theorem d_C_part_17 : decode b_C_part 17 = .ok (.ifCond .ne 11, 3) := by decide +kernel
theorem d_C_part_20 : decode b_C_part 20 = .ok (.new 50, 3) := by decide +kernel
theorem d_C_part_23 : decode b_C_part 23 = .ok (.dup, 1) := by decide +kernel
theorem d_C_part_24 : decode b_C_part 24 = .ok (.invokespecial 52, 3) := by decide +kernel
theorem d_C_part_27 : decode b_C_part 27 = .ok (.athrow, 1) := by decide +kernel
theorem d_C_part_28 : decode b_C_part 28 = .ok (.aload_n 0, 1) := by decide +kernel
theorem d_C_part_29 : decode b_C_part 29 = .ok (.getfield 40, 3) := by decide +kernel
theorem d_C_part_32 : decode b_C_part 32 = .ok (.getfield 141, 3) := by decide +kernel
theorem d_C_part_35 : decode b_C_part 35 = .ok (.iload_n 1, 1) := by decide +kernel
theorem d_C_part_36 : decode b_C_part 36 = .ok (.iaload, 1) := by decide +kernel
theorem d_C_part_37 : decode b_C_part 37 = .ok (.iload_n 2, 1) := by decide +kernel
theorem d_C_part_38 : decode b_C_part 38 = .ok (.invokestatic 145, 3) := by decide +kernel
theorem d_C_part_41 : decode b_C_part 41 = .ok (.ireturn, 1) := by decide +kernel
theorem d_C_requireEvent_0 : decode b_C_requireEvent 0 = .ok (.iload_n 0, 1) := by decide +kernel
theorem d_C_requireEvent_1 : decode b_C_requireEvent 1 = .ok (.ifCond .lt 9, 3) := by decide +kernel
theorem d_C_requireEvent_4 : decode b_C_requireEvent 4 = .ok (.iload_n 0, 1) := by decide +kernel
theorem d_C_requireEvent_5 : decode b_C_requireEvent 5 = .ok (.bipush 12, 2) := by decide +kernel
theorem d_C_requireEvent_7 : decode b_C_requireEvent 7 = .ok (.if_icmp .lt 11, 3) := by decide +kernel
theorem d_C_requireEvent_10 : decode b_C_requireEvent 10 = .ok (.new 50, 3) := by decide +kernel
theorem d_C_requireEvent_13 : decode b_C_requireEvent 13 = .ok (.dup, 1) := by decide +kernel
theorem d_C_requireEvent_14 : decode b_C_requireEvent 14 = .ok (.invokespecial 52, 3) := by decide +kernel
theorem d_C_requireEvent_17 : decode b_C_requireEvent 17 = .ok (.athrow, 1) := by decide +kernel
theorem d_C_requireEvent_18 : decode b_C_requireEvent 18 = .ok (.return_, 1) := by decide +kernel
theorem d_C_requireResult_0 : decode b_C_requireResult 0 = .ok (.aload_n 0, 1) := by decide +kernel
theorem d_C_requireResult_1 : decode b_C_requireResult 1 = .ok (.getfield 60, 3) := by decide +kernel
theorem d_C_requireResult_4 : decode b_C_requireResult 4 = .ok (.ifCond .ne 11, 3) := by decide +kernel
theorem d_C_requireResult_7 : decode b_C_requireResult 7 = .ok (.new 57, 3) := by decide +kernel
theorem d_C_requireResult_10 : decode b_C_requireResult 10 = .ok (.dup, 1) := by decide +kernel
theorem d_C_requireResult_11 : decode b_C_requireResult 11 = .ok (.invokespecial 59, 3) := by decide +kernel
theorem d_C_requireResult_14 : decode b_C_requireResult 14 = .ok (.athrow, 1) := by decide +kernel
theorem d_C_requireResult_15 : decode b_C_requireResult 15 = .ok (.return_, 1) := by decide +kernel
theorem d_C_requireState_0 : decode b_C_requireState 0 = .ok (.iload_n 1, 1) := by decide +kernel
theorem d_C_requireState_1 : decode b_C_requireState 1 = .ok (.iconst 1, 1) := by decide +kernel
theorem d_C_requireState_2 : decode b_C_requireState 2 = .ok (.if_icmp .lt 14, 3) := by decide +kernel
theorem d_C_requireState_5 : decode b_C_requireState 5 = .ok (.iload_n 1, 1) := by decide +kernel
theorem d_C_requireState_6 : decode b_C_requireState 6 = .ok (.aload_n 0, 1) := by decide +kernel
theorem d_C_requireState_7 : decode b_C_requireState 7 = .ok (.getfield 40, 3) := by decide +kernel
theorem d_C_requireState_10 : decode b_C_requireState 10 = .ok (.getfield 121, 3) := by decide +kernel
theorem d_C_requireState_13 : decode b_C_requireState 13 = .ok (.if_icmp .le 11, 3) := by decide +kernel
theorem d_C_requireState_16 : decode b_C_requireState 16 = .ok (.new 50, 3) := by decide +kernel
theorem d_C_requireState_19 : decode b_C_requireState 19 = .ok (.dup, 1) := by decide +kernel
theorem d_C_requireState_20 : decode b_C_requireState 20 = .ok (.invokespecial 52, 3) := by decide +kernel
theorem d_C_requireState_23 : decode b_C_requireState 23 = .ok (.athrow, 1) := by decide +kernel
theorem d_C_requireState_24 : decode b_C_requireState 24 = .ok (.return_, 1) := by decide +kernel
theorem d_C_requireStateAndEvent_0 : decode b_C_requireStateAndEvent 0 = .ok (.aload_n 0, 1) := by decide +kernel
theorem d_C_requireStateAndEvent_1 : decode b_C_requireStateAndEvent 1 = .ok (.invokevirtual 132, 3) := by decide +kernel
theorem d_C_requireStateAndEvent_4 : decode b_C_requireStateAndEvent 4 = .ok (.aload_n 0, 1) := by decide +kernel
theorem d_C_requireStateAndEvent_5 : decode b_C_requireStateAndEvent 5 = .ok (.iload_n 1, 1) := by decide +kernel
theorem d_C_requireStateAndEvent_6 : decode b_C_requireStateAndEvent 6 = .ok (.invokevirtual 135, 3) := by decide +kernel
theorem d_C_requireStateAndEvent_9 : decode b_C_requireStateAndEvent 9 = .ok (.iload_n 2, 1) := by decide +kernel
theorem d_C_requireStateAndEvent_10 : decode b_C_requireStateAndEvent 10 = .ok (.invokestatic 68, 3) := by decide +kernel
theorem d_C_requireStateAndEvent_13 : decode b_C_requireStateAndEvent 13 = .ok (.return_, 1) := by decide +kernel
theorem d_C_requireSupervisor_0 : decode b_C_requireSupervisor 0 = .ok (.aload_n 0, 1) := by decide +kernel
theorem d_C_requireSupervisor_1 : decode b_C_requireSupervisor 1 = .ok (.getfield 60, 3) := by decide +kernel
theorem d_C_requireSupervisor_4 : decode b_C_requireSupervisor 4 = .ok (.ifCond .eq 13, 3) := by decide +kernel
theorem d_C_requireSupervisor_7 : decode b_C_requireSupervisor 7 = .ok (.aload_n 0, 1) := by decide +kernel
theorem d_C_requireSupervisor_8 : decode b_C_requireSupervisor 8 = .ok (.getfield 40, 3) := by decide +kernel
theorem d_C_requireSupervisor_11 : decode b_C_requireSupervisor 11 = .ok (.getfield 121, 3) := by decide +kernel
theorem d_C_requireSupervisor_14 : decode b_C_requireSupervisor 14 = .ok (.ifCond .ne 11, 3) := by decide +kernel
theorem d_C_requireSupervisor_17 : decode b_C_requireSupervisor 17 = .ok (.new 57, 3) := by decide +kernel
theorem d_C_requireSupervisor_20 : decode b_C_requireSupervisor 20 = .ok (.dup, 1) := by decide +kernel
theorem d_C_requireSupervisor_21 : decode b_C_requireSupervisor 21 = .ok (.invokespecial 59, 3) := by decide +kernel
theorem d_C_requireSupervisor_24 : decode b_C_requireSupervisor 24 = .ok (.athrow, 1) := by decide +kernel
theorem d_C_requireSupervisor_25 : decode b_C_requireSupervisor 25 = .ok (.return_, 1) := by decide +kernel
theorem d_C_reset_0 : decode b_C_reset 0 = .ok (.aload_n 0, 1) := by decide +kernel
theorem d_C_reset_1 : decode b_C_reset 1 = .ok (.invokevirtual 132, 3) := by decide +kernel
theorem d_C_reset_4 : decode b_C_reset 4 = .ok (.aload_n 0, 1) := by decide +kernel
theorem d_C_reset_5 : decode b_C_reset 5 = .ok (.iconst 1, 1) := by decide +kernel
theorem d_C_reset_6 : decode b_C_reset 6 = .ok (.putfield 118, 3) := by decide +kernel
theorem d_C_reset_9 : decode b_C_reset 9 = .ok (.return_, 1) := by decide +kernel
theorem d_C_says_0 : decode b_C_says 0 = .ok (.aload_n 0, 1) := by decide +kernel
theorem d_C_says_1 : decode b_C_says 1 = .ok (.iload_n 1, 1) := by decide +kernel
theorem d_C_says_2 : decode b_C_says 2 = .ok (.iload_n 2, 1) := by decide +kernel
theorem d_C_says_3 : decode b_C_says 3 = .ok (.invokevirtual 122, 3) := by decide +kernel
theorem d_C_says_6 : decode b_C_says 6 = .ok (.aload_n 0, 1) := by decide +kernel
theorem d_C_says_7 : decode b_C_says 7 = .ok (.getfield 40, 3) := by decide +kernel
theorem d_C_says_10 : decode b_C_says 10 = .ok (.iload_n 1, 1) := by decide +kernel
theorem d_C_says_11 : decode b_C_says 11 = .ok (.iload_n 2, 1) := by decide +kernel
theorem d_C_says_12 : decode b_C_says 12 = .ok (.invokevirtual 126, 3) := by decide +kernel
theorem d_C_says_15 : decode b_C_says 15 = .ok (.ireturn, 1) := by decide +kernel
theorem d_C_superviseUnder_0 : decode b_C_superviseUnder 0 = .ok (.aload_n 0, 1) := by decide +kernel
theorem d_C_superviseUnder_1 : decode b_C_superviseUnder 1 = .ok (.getfield 12, 3) := by decide +kernel
theorem d_C_superviseUnder_4 : decode b_C_superviseUnder 4 = .ok (.invokevirtual 183, 3) := by decide +kernel
theorem d_C_superviseUnder_7 : decode b_C_superviseUnder 7 = .ok (.iconst 1, 1) := by decide +kernel
theorem d_C_superviseUnder_8 : decode b_C_superviseUnder 8 = .ok (.iload_n 1, 1) := by decide +kernel
theorem d_C_superviseUnder_9 : decode b_C_superviseUnder 9 = .ok (.ishl, 1) := by decide +kernel
theorem d_C_superviseUnder_10 : decode b_C_superviseUnder 10 = .ok (.ior, 1) := by decide +kernel
theorem d_C_superviseUnder_11 : decode b_C_superviseUnder 11 = .ok (.istore_n 3, 1) := by decide +kernel
theorem d_C_superviseUnder_12 : decode b_C_superviseUnder 12 = .ok (.aload_n 0, 1) := by decide +kernel
theorem d_C_superviseUnder_13 : decode b_C_superviseUnder 13 = .ok (.getfield 12, 3) := by decide +kernel
theorem d_C_superviseUnder_16 : decode b_C_superviseUnder 16 = .ok (.iload_n 3, 1) := by decide +kernel
theorem d_C_superviseUnder_17 : decode b_C_superviseUnder 17 = .ok (.invokevirtual 111, 3) := by decide +kernel
theorem d_C_superviseUnder_20 : decode b_C_superviseUnder 20 = .ok (.ifCond .eq 26, 3) := by decide +kernel
theorem d_C_superviseUnder_23 : decode b_C_superviseUnder 23 = .ok (.aload_n 0, 1) := by decide +kernel
theorem d_C_superviseUnder_24 : decode b_C_superviseUnder 24 = .ok (.getfield 24, 3) := by decide +kernel
theorem d_C_superviseUnder_27 : decode b_C_superviseUnder 27 = .ok (.iload_n 3, 1) := by decide +kernel
theorem d_C_superviseUnder_28 : decode b_C_superviseUnder 28 = .ok (.aload_n 2, 1) := by decide +kernel
theorem d_C_superviseUnder_29 : decode b_C_superviseUnder 29 = .ok (.invokevirtual 114, 3) := by decide +kernel
theorem d_C_superviseUnder_32 : decode b_C_superviseUnder 32 = .ok (.ifCond .eq 14, 3) := by decide +kernel
theorem d_C_superviseUnder_35 : decode b_C_superviseUnder 35 = .ok (.aload_n 2, 1) := by decide +kernel
theorem d_C_superviseUnder_36 : decode b_C_superviseUnder 36 = .ok (.getfield 121, 3) := by decide +kernel
theorem d_C_superviseUnder_39 : decode b_C_superviseUnder 39 = .ok (.ifCond .le 7, 3) := by decide +kernel
theorem d_C_superviseUnder_42 : decode b_C_superviseUnder 42 = .ok (.iconst 1, 1) := by decide +kernel
theorem d_C_superviseUnder_43 : decode b_C_superviseUnder 43 = .ok (.goto 4, 3) := by decide +kernel
theorem d_C_superviseUnder_46 : decode b_C_superviseUnder 46 = .ok (.iconst 0, 1) := by decide +kernel
theorem d_C_superviseUnder_47 : decode b_C_superviseUnder 47 = .ok (.ireturn, 1) := by decide +kernel
theorem d_C_tell_0 : decode b_C_tell 0 = .ok (.aload_n 0, 1) := by decide +kernel
theorem d_C_tell_1 : decode b_C_tell 1 = .ok (.getfield 12, 3) := by decide +kernel
theorem d_C_tell_4 : decode b_C_tell 4 = .ok (.iload_n 1, 1) := by decide +kernel
theorem d_C_tell_5 : decode b_C_tell 5 = .ok (.iload_n 2, 1) := by decide +kernel
theorem d_C_tell_6 : decode b_C_tell 6 = .ok (.invokevirtual 83, 3) := by decide +kernel
theorem d_C_tell_9 : decode b_C_tell 9 = .ok (.ifCond .eq 12, 3) := by decide +kernel
theorem d_C_tell_12 : decode b_C_tell 12 = .ok (.iload_n 3, 1) := by decide +kernel
theorem d_C_tell_13 : decode b_C_tell 13 = .ok (.ifCond .lt 8, 3) := by decide +kernel
theorem d_C_tell_16 : decode b_C_tell 16 = .ok (.iload_n 3, 1) := by decide +kernel
theorem d_C_tell_17 : decode b_C_tell 17 = .ok (.iconst 2, 1) := by decide +kernel
theorem d_C_tell_18 : decode b_C_tell 18 = .ok (.if_icmp .le 11, 3) := by decide +kernel
theorem d_C_tell_21 : decode b_C_tell 21 = .ok (.new 50, 3) := by decide +kernel
theorem d_C_tell_24 : decode b_C_tell 24 = .ok (.dup, 1) := by decide +kernel
theorem d_C_tell_25 : decode b_C_tell 25 = .ok (.invokespecial 52, 3) := by decide +kernel
theorem d_C_tell_28 : decode b_C_tell 28 = .ok (.athrow, 1) := by decide +kernel
theorem d_C_tell_29 : decode b_C_tell 29 = .ok (.aload_n 0, 1) := by decide +kernel
theorem d_C_tell_30 : decode b_C_tell 30 = .ok (.iconst 0, 1) := by decide +kernel
theorem d_C_tell_31 : decode b_C_tell 31 = .ok (.putfield 60, 3) := by decide +kernel
theorem d_C_tell_34 : decode b_C_tell 34 = .ok (.aload_n 0, 1) := by decide +kernel
theorem d_C_tell_35 : decode b_C_tell 35 = .ok (.getfield 12, 3) := by decide +kernel
theorem d_C_tell_38 : decode b_C_tell 38 = .ok (.getfield 87, 3) := by decide +kernel
theorem d_C_tell_41 : decode b_C_tell 41 = .ok (.iload_n 1, 1) := by decide +kernel
theorem d_C_tell_42 : decode b_C_tell 42 = .ok (.aaload, 1) := by decide +kernel
theorem d_C_tell_43 : decode b_C_tell 43 = .ok (.iload_n 2, 1) := by decide +kernel
theorem d_C_tell_44 : decode b_C_tell 44 = .ok (.iload_n 3, 1) := by decide +kernel
theorem d_C_tell_45 : decode b_C_tell 45 = .ok (.iload 4, 2) := by decide +kernel
theorem d_C_tell_47 : decode b_C_tell 47 = .ok (.invokevirtual 100, 3) := by decide +kernel
theorem d_C_tell_50 : decode b_C_tell 50 = .ok (.return_, 1) := by decide +kernel
theorem d_C_why_0 : decode b_C_why 0 = .ok (.aload_n 0, 1) := by decide +kernel
theorem d_C_why_1 : decode b_C_why 1 = .ok (.invokevirtual 148, 3) := by decide +kernel
theorem d_C_why_4 : decode b_C_why 4 = .ok (.aload_n 0, 1) := by decide +kernel
theorem d_C_why_5 : decode b_C_why 5 = .ok (.getfield 40, 3) := by decide +kernel
theorem d_C_why_8 : decode b_C_why 8 = .ok (.getfield 157, 3) := by decide +kernel
theorem d_C_why_11 : decode b_C_why 11 = .ok (.ireturn, 1) := by decide +kernel
theorem d_C_whyEvent_0 : decode b_C_whyEvent 0 = .ok (.aload_n 0, 1) := by decide +kernel
theorem d_C_whyEvent_1 : decode b_C_whyEvent 1 = .ok (.invokevirtual 148, 3) := by decide +kernel
theorem d_C_whyEvent_4 : decode b_C_whyEvent 4 = .ok (.iload_n 1, 1) := by decide +kernel
theorem d_C_whyEvent_5 : decode b_C_whyEvent 5 = .ok (.ifCond .lt 14, 3) := by decide +kernel
theorem d_C_whyEvent_8 : decode b_C_whyEvent 8 = .ok (.iload_n 1, 1) := by decide +kernel
theorem d_C_whyEvent_9 : decode b_C_whyEvent 9 = .ok (.aload_n 0, 1) := by decide +kernel
theorem d_C_whyEvent_10 : decode b_C_whyEvent 10 = .ok (.getfield 40, 3) := by decide +kernel
theorem d_C_whyEvent_13 : decode b_C_whyEvent 13 = .ok (.getfield 157, 3) := by decide +kernel
theorem d_C_whyEvent_16 : decode b_C_whyEvent 16 = .ok (.if_icmp .lt 11, 3) := by decide +kernel
theorem d_C_whyEvent_19 : decode b_C_whyEvent 19 = .ok (.new 160, 3) := by decide +kernel
theorem d_C_whyEvent_22 : decode b_C_whyEvent 22 = .ok (.dup, 1) := by decide +kernel
theorem d_C_whyEvent_23 : decode b_C_whyEvent 23 = .ok (.invokespecial 162, 3) := by decide +kernel
theorem d_C_whyEvent_26 : decode b_C_whyEvent 26 = .ok (.athrow, 1) := by decide +kernel
theorem d_C_whyEvent_27 : decode b_C_whyEvent 27 = .ok (.aload_n 0, 1) := by decide +kernel
theorem d_C_whyEvent_28 : decode b_C_whyEvent 28 = .ok (.getfield 40, 3) := by decide +kernel
theorem d_C_whyEvent_31 : decode b_C_whyEvent 31 = .ok (.getfield 163, 3) := by decide +kernel
theorem d_C_whyEvent_34 : decode b_C_whyEvent 34 = .ok (.aload_n 0, 1) := by decide +kernel
theorem d_C_whyEvent_35 : decode b_C_whyEvent 35 = .ok (.getfield 40, 3) := by decide +kernel
theorem d_C_whyEvent_38 : decode b_C_whyEvent 38 = .ok (.getfield 157, 3) := by decide +kernel
theorem d_C_whyEvent_41 : decode b_C_whyEvent 41 = .ok (.iconst 1, 1) := by decide +kernel
theorem d_C_whyEvent_42 : decode b_C_whyEvent 42 = .ok (.isub, 1) := by decide +kernel
theorem d_C_whyEvent_43 : decode b_C_whyEvent 43 = .ok (.iload_n 1, 1) := by decide +kernel
theorem d_C_whyEvent_44 : decode b_C_whyEvent 44 = .ok (.isub, 1) := by decide +kernel
theorem d_C_whyEvent_45 : decode b_C_whyEvent 45 = .ok (.iaload, 1) := by decide +kernel
theorem d_C_whyEvent_46 : decode b_C_whyEvent 46 = .ok (.ireturn, 1) := by decide +kernel
theorem d_G_add_0 : decode b_G_add 0 = .ok (.aload_n 0, 1) := by decide +kernel
theorem d_G_add_1 : decode b_G_add 1 = .ok (.dup, 1) := by decide +kernel
theorem d_G_add_2 : decode b_G_add 2 = .ok (.getfield 43, 3) := by decide +kernel
theorem d_G_add_5 : decode b_G_add 5 = .ok (.iconst 1, 1) := by decide +kernel
theorem d_G_add_6 : decode b_G_add 6 = .ok (.iadd, 1) := by decide +kernel
theorem d_G_add_7 : decode b_G_add 7 = .ok (.putfield 43, 3) := by decide +kernel
theorem d_G_add_10 : decode b_G_add 10 = .ok (.aload_n 0, 1) := by decide +kernel
theorem d_G_add_11 : decode b_G_add 11 = .ok (.getfield 9, 3) := by decide +kernel
theorem d_G_add_14 : decode b_G_add 14 = .ok (.iload_n 1, 1) := by decide +kernel
theorem d_G_add_15 : decode b_G_add 15 = .ok (.aload_n 0, 1) := by decide +kernel
theorem d_G_add_16 : decode b_G_add 16 = .ok (.getfield 43, 3) := by decide +kernel
theorem d_G_add_19 : decode b_G_add 19 = .ok (.iastore, 1) := by decide +kernel
theorem d_G_add_20 : decode b_G_add 20 = .ok (.aload_n 0, 1) := by decide +kernel
theorem d_G_add_21 : decode b_G_add 21 = .ok (.getfield 15, 3) := by decide +kernel
theorem d_G_add_24 : decode b_G_add 24 = .ok (.aload_n 0, 1) := by decide +kernel
theorem d_G_add_25 : decode b_G_add 25 = .ok (.getfield 43, 3) := by decide +kernel
theorem d_G_add_28 : decode b_G_add 28 = .ok (.iload_n 1, 1) := by decide +kernel
theorem d_G_add_29 : decode b_G_add 29 = .ok (.iastore, 1) := by decide +kernel
theorem d_G_add_30 : decode b_G_add 30 = .ok (.aload_n 0, 1) := by decide +kernel
theorem d_G_add_31 : decode b_G_add 31 = .ok (.getfield 28, 3) := by decide +kernel
theorem d_G_add_34 : decode b_G_add 34 = .ok (.aload_n 0, 1) := by decide +kernel
theorem d_G_add_35 : decode b_G_add 35 = .ok (.getfield 43, 3) := by decide +kernel
theorem d_G_add_38 : decode b_G_add 38 = .ok (.iload_n 2, 1) := by decide +kernel
theorem d_G_add_39 : decode b_G_add 39 = .ok (.iastore, 1) := by decide +kernel
theorem d_G_add_40 : decode b_G_add 40 = .ok (.aload_n 0, 1) := by decide +kernel
theorem d_G_add_41 : decode b_G_add 41 = .ok (.getfield 34, 3) := by decide +kernel
theorem d_G_add_44 : decode b_G_add 44 = .ok (.aload_n 0, 1) := by decide +kernel
theorem d_G_add_45 : decode b_G_add 45 = .ok (.getfield 43, 3) := by decide +kernel
theorem d_G_add_48 : decode b_G_add 48 = .ok (.iconst 0, 1) := by decide +kernel
theorem d_G_add_49 : decode b_G_add 49 = .ok (.iastore, 1) := by decide +kernel
theorem d_G_add_50 : decode b_G_add 50 = .ok (.iconst 0, 1) := by decide +kernel
theorem d_G_add_51 : decode b_G_add 51 = .ok (.istore_n 3, 1) := by decide +kernel
theorem d_G_add_52 : decode b_G_add 52 = .ok (.iload_n 3, 1) := by decide +kernel
theorem d_G_add_53 : decode b_G_add 53 = .ok (.bipush 12, 2) := by decide +kernel
theorem d_G_add_55 : decode b_G_add 55 = .ok (.if_icmp .ge 24, 3) := by decide +kernel
theorem d_G_add_58 : decode b_G_add 58 = .ok (.aload_n 0, 1) := by decide +kernel
theorem d_G_add_59 : decode b_G_add 59 = .ok (.getfield 31, 3) := by decide +kernel
theorem d_G_add_62 : decode b_G_add 62 = .ok (.aload_n 0, 1) := by decide +kernel
theorem d_G_add_63 : decode b_G_add 63 = .ok (.getfield 43, 3) := by decide +kernel
theorem d_G_add_66 : decode b_G_add 66 = .ok (.bipush 12, 2) := by decide +kernel
theorem d_G_add_68 : decode b_G_add 68 = .ok (.imul, 1) := by decide +kernel
theorem d_G_add_69 : decode b_G_add 69 = .ok (.iload_n 3, 1) := by decide +kernel
theorem d_G_add_70 : decode b_G_add 70 = .ok (.iadd, 1) := by decide +kernel
theorem d_G_add_71 : decode b_G_add 71 = .ok (.iconst 0, 1) := by decide +kernel
theorem d_G_add_72 : decode b_G_add 72 = .ok (.iastore, 1) := by decide +kernel
theorem d_G_add_73 : decode b_G_add 73 = .ok (.iinc 3 1, 3) := by decide +kernel
theorem d_G_add_76 : decode b_G_add 76 = .ok (.goto (-24), 3) := by decide +kernel
theorem d_G_add_79 : decode b_G_add 79 = .ok (.return_, 1) := by decide +kernel
theorem d_G_begin_0 : decode b_G_begin 0 = .ok (.iconst 1, 1) := by decide +kernel
theorem d_G_begin_1 : decode b_G_begin 1 = .ok (.istore_n 2, 1) := by decide +kernel
theorem d_G_begin_2 : decode b_G_begin 2 = .ok (.iload_n 2, 1) := by decide +kernel
theorem d_G_begin_3 : decode b_G_begin 3 = .ok (.aload_n 0, 1) := by decide +kernel
theorem d_G_begin_4 : decode b_G_begin 4 = .ok (.getfield 43, 3) := by decide +kernel
theorem d_G_begin_7 : decode b_G_begin 7 = .ok (.if_icmp .gt 21, 3) := by decide +kernel
theorem d_G_begin_10 : decode b_G_begin 10 = .ok (.aload_n 0, 1) := by decide +kernel
theorem d_G_begin_11 : decode b_G_begin 11 = .ok (.getfield 9, 3) := by decide +kernel
theorem d_G_begin_14 : decode b_G_begin 14 = .ok (.aload_n 0, 1) := by decide +kernel
theorem d_G_begin_15 : decode b_G_begin 15 = .ok (.getfield 15, 3) := by decide +kernel
theorem d_G_begin_18 : decode b_G_begin 18 = .ok (.iload_n 2, 1) := by decide +kernel
theorem d_G_begin_19 : decode b_G_begin 19 = .ok (.iaload, 1) := by decide +kernel
theorem d_G_begin_20 : decode b_G_begin 20 = .ok (.iconst 0, 1) := by decide +kernel
theorem d_G_begin_21 : decode b_G_begin 21 = .ok (.iastore, 1) := by decide +kernel
theorem d_G_begin_22 : decode b_G_begin 22 = .ok (.iinc 2 1, 3) := by decide +kernel
theorem d_G_begin_25 : decode b_G_begin 25 = .ok (.goto (-23), 3) := by decide +kernel
theorem d_G_begin_28 : decode b_G_begin 28 = .ok (.aload_n 0, 1) := by decide +kernel
theorem d_G_begin_29 : decode b_G_begin 29 = .ok (.iconst 0, 1) := by decide +kernel
theorem d_G_begin_30 : decode b_G_begin 30 = .ok (.putfield 43, 3) := by decide +kernel
theorem d_G_begin_33 : decode b_G_begin 33 = .ok (.aload_n 0, 1) := by decide +kernel
theorem d_G_begin_34 : decode b_G_begin 34 = .ok (.iload_n 1, 1) := by decide +kernel
theorem d_G_begin_35 : decode b_G_begin 35 = .ok (.iconst 0, 1) := by decide +kernel
theorem d_G_begin_36 : decode b_G_begin 36 = .ok (.invokevirtual 47, 3) := by decide +kernel
theorem d_G_begin_39 : decode b_G_begin 39 = .ok (.return_, 1) := by decide +kernel
theorem d_G_countKept_0 : decode b_G_countKept 0 = .ok (.iconst 0, 1) := by decide +kernel
theorem d_G_countKept_1 : decode b_G_countKept 1 = .ok (.istore_n 1, 1) := by decide +kernel
theorem d_G_countKept_2 : decode b_G_countKept 2 = .ok (.iconst 1, 1) := by decide +kernel
theorem d_G_countKept_3 : decode b_G_countKept 3 = .ok (.istore_n 2, 1) := by decide +kernel
theorem d_G_countKept_4 : decode b_G_countKept 4 = .ok (.iload_n 2, 1) := by decide +kernel
theorem d_G_countKept_5 : decode b_G_countKept 5 = .ok (.aload_n 0, 1) := by decide +kernel
theorem d_G_countKept_6 : decode b_G_countKept 6 = .ok (.getfield 43, 3) := by decide +kernel
theorem d_G_countKept_9 : decode b_G_countKept 9 = .ok (.if_icmp .gt 21, 3) := by decide +kernel
theorem d_G_countKept_12 : decode b_G_countKept 12 = .ok (.aload_n 0, 1) := by decide +kernel
theorem d_G_countKept_13 : decode b_G_countKept 13 = .ok (.getfield 22, 3) := by decide +kernel
theorem d_G_countKept_16 : decode b_G_countKept 16 = .ok (.iload_n 2, 1) := by decide +kernel
theorem d_G_countKept_17 : decode b_G_countKept 17 = .ok (.baload, 1) := by decide +kernel
theorem d_G_countKept_18 : decode b_G_countKept 18 = .ok (.ifCond .eq 6, 3) := by decide +kernel
theorem d_G_countKept_21 : decode b_G_countKept 21 = .ok (.iinc 1 1, 3) := by decide +kernel
theorem d_G_countKept_24 : decode b_G_countKept 24 = .ok (.iinc 2 1, 3) := by decide +kernel
theorem d_G_countKept_27 : decode b_G_countKept 27 = .ok (.goto (-23), 3) := by decide +kernel
theorem d_G_countKept_30 : decode b_G_countKept 30 = .ok (.iload_n 1, 1) := by decide +kernel
theorem d_G_countKept_31 : decode b_G_countKept 31 = .ok (.ireturn, 1) := by decide +kernel
theorem d_G_dropDeadEnds_0 : decode b_G_dropDeadEnds 0 = .ok (.iconst 0, 1) := by decide +kernel
theorem d_G_dropDeadEnds_1 : decode b_G_dropDeadEnds 1 = .ok (.istore_n 1, 1) := by decide +kernel
theorem d_G_dropDeadEnds_2 : decode b_G_dropDeadEnds 2 = .ok (.iconst 1, 1) := by decide +kernel
theorem d_G_dropDeadEnds_3 : decode b_G_dropDeadEnds 3 = .ok (.istore_n 2, 1) := by decide +kernel
theorem d_G_dropDeadEnds_4 : decode b_G_dropDeadEnds 4 = .ok (.iload_n 2, 1) := by decide +kernel
theorem d_G_dropDeadEnds_5 : decode b_G_dropDeadEnds 5 = .ok (.aload_n 0, 1) := by decide +kernel
theorem d_G_dropDeadEnds_6 : decode b_G_dropDeadEnds 6 = .ok (.getfield 43, 3) := by decide +kernel
theorem d_G_dropDeadEnds_9 : decode b_G_dropDeadEnds 9 = .ok (.if_icmp .gt 37, 3) := by decide +kernel
theorem d_G_dropDeadEnds_12 : decode b_G_dropDeadEnds 12 = .ok (.aload_n 0, 1) := by decide +kernel
theorem d_G_dropDeadEnds_13 : decode b_G_dropDeadEnds 13 = .ok (.getfield 22, 3) := by decide +kernel
theorem d_G_dropDeadEnds_16 : decode b_G_dropDeadEnds 16 = .ok (.iload_n 2, 1) := by decide +kernel
theorem d_G_dropDeadEnds_17 : decode b_G_dropDeadEnds 17 = .ok (.baload, 1) := by decide +kernel
theorem d_G_dropDeadEnds_18 : decode b_G_dropDeadEnds 18 = .ok (.ifCond .eq 22, 3) := by decide +kernel
theorem d_G_dropDeadEnds_21 : decode b_G_dropDeadEnds 21 = .ok (.aload_n 0, 1) := by decide +kernel
theorem d_G_dropDeadEnds_22 : decode b_G_dropDeadEnds 22 = .ok (.getfield 25, 3) := by decide +kernel
theorem d_G_dropDeadEnds_25 : decode b_G_dropDeadEnds 25 = .ok (.iload_n 2, 1) := by decide +kernel
theorem d_G_dropDeadEnds_26 : decode b_G_dropDeadEnds 26 = .ok (.iaload, 1) := by decide +kernel
theorem d_G_dropDeadEnds_27 : decode b_G_dropDeadEnds 27 = .ok (.iconst (-1), 1) := by decide +kernel
theorem d_G_dropDeadEnds_28 : decode b_G_dropDeadEnds 28 = .ok (.if_icmp .ne 12, 3) := by decide +kernel
theorem d_G_dropDeadEnds_31 : decode b_G_dropDeadEnds 31 = .ok (.aload_n 0, 1) := by decide +kernel
theorem d_G_dropDeadEnds_32 : decode b_G_dropDeadEnds 32 = .ok (.getfield 22, 3) := by decide +kernel
theorem d_G_dropDeadEnds_35 : decode b_G_dropDeadEnds 35 = .ok (.iload_n 2, 1) := by decide +kernel
theorem d_G_dropDeadEnds_36 : decode b_G_dropDeadEnds 36 = .ok (.iconst 0, 1) := by decide +kernel
theorem d_G_dropDeadEnds_37 : decode b_G_dropDeadEnds 37 = .ok (.bastore, 1) := by decide +kernel
theorem d_G_dropDeadEnds_38 : decode b_G_dropDeadEnds 38 = .ok (.iconst 1, 1) := by decide +kernel
theorem d_G_dropDeadEnds_39 : decode b_G_dropDeadEnds 39 = .ok (.istore_n 1, 1) := by decide +kernel
theorem d_G_dropDeadEnds_40 : decode b_G_dropDeadEnds 40 = .ok (.iinc 2 1, 3) := by decide +kernel
theorem d_G_dropDeadEnds_43 : decode b_G_dropDeadEnds 43 = .ok (.goto (-39), 3) := by decide +kernel
theorem d_G_dropDeadEnds_46 : decode b_G_dropDeadEnds 46 = .ok (.iload_n 1, 1) := by decide +kernel
theorem d_G_dropDeadEnds_47 : decode b_G_dropDeadEnds 47 = .ok (.ireturn, 1) := by decide +kernel
theorem d_G_init_0 : decode b_G_init 0 = .ok (.aload_n 0, 1) := by decide +kernel
theorem d_G_init_1 : decode b_G_init 1 = .ok (.invokespecial 3, 3) := by decide +kernel
theorem d_G_init_4 : decode b_G_init 4 = .ok (.aload_n 0, 1) := by decide +kernel
theorem d_G_init_5 : decode b_G_init 5 = .ok (.sipush 4096, 3) := by decide +kernel
theorem d_G_init_8 : decode b_G_init 8 = .ok (.newarray .int, 2) := by decide +kernel
theorem d_G_init_10 : decode b_G_init 10 = .ok (.putfield 9, 3) := by decide +kernel
theorem d_G_init_13 : decode b_G_init 13 = .ok (.aload_n 0, 1) := by decide +kernel
theorem d_G_init_14 : decode b_G_init 14 = .ok (.sipush 201, 3) := by decide +kernel
theorem d_G_init_17 : decode b_G_init 17 = .ok (.newarray .int, 2) := by decide +kernel
theorem d_G_init_19 : decode b_G_init 19 = .ok (.putfield 15, 3) := by decide +kernel
theorem d_G_init_22 : decode b_G_init 22 = .ok (.aload_n 0, 1) := by decide +kernel
theorem d_G_init_23 : decode b_G_init 23 = .ok (.sipush 201, 3) := by decide +kernel
theorem d_G_init_26 : decode b_G_init 26 = .ok (.newarray .boolean, 2) := by decide +kernel
theorem d_G_init_28 : decode b_G_init 28 = .ok (.putfield 18, 3) := by decide +kernel
theorem d_G_init_31 : decode b_G_init 31 = .ok (.aload_n 0, 1) := by decide +kernel
theorem d_G_init_32 : decode b_G_init 32 = .ok (.sipush 201, 3) := by decide +kernel
theorem d_G_init_35 : decode b_G_init 35 = .ok (.newarray .boolean, 2) := by decide +kernel
theorem d_G_init_37 : decode b_G_init 37 = .ok (.putfield 22, 3) := by decide +kernel
theorem d_G_init_40 : decode b_G_init 40 = .ok (.aload_n 0, 1) := by decide +kernel
theorem d_G_init_41 : decode b_G_init 41 = .ok (.sipush 201, 3) := by decide +kernel
theorem d_G_init_44 : decode b_G_init 44 = .ok (.newarray .int, 2) := by decide +kernel
theorem d_G_init_46 : decode b_G_init 46 = .ok (.putfield 25, 3) := by decide +kernel
theorem d_G_init_49 : decode b_G_init 49 = .ok (.aload_n 0, 1) := by decide +kernel
theorem d_G_init_50 : decode b_G_init 50 = .ok (.sipush 201, 3) := by decide +kernel
theorem d_G_init_53 : decode b_G_init 53 = .ok (.newarray .int, 2) := by decide +kernel
theorem d_G_init_55 : decode b_G_init 55 = .ok (.putfield 28, 3) := by decide +kernel
theorem d_G_init_58 : decode b_G_init 58 = .ok (.aload_n 0, 1) := by decide +kernel
theorem d_G_init_59 : decode b_G_init 59 = .ok (.sipush 2412, 3) := by decide +kernel
theorem d_G_init_62 : decode b_G_init 62 = .ok (.newarray .int, 2) := by decide +kernel
theorem d_G_init_64 : decode b_G_init 64 = .ok (.putfield 31, 3) := by decide +kernel
theorem d_G_init_67 : decode b_G_init 67 = .ok (.aload_n 0, 1) := by decide +kernel
theorem d_G_init_68 : decode b_G_init 68 = .ok (.sipush 201, 3) := by decide +kernel
theorem d_G_init_71 : decode b_G_init 71 = .ok (.newarray .int, 2) := by decide +kernel
theorem d_G_init_73 : decode b_G_init 73 = .ok (.putfield 34, 3) := by decide +kernel
theorem d_G_init_76 : decode b_G_init 76 = .ok (.aload_n 0, 1) := by decide +kernel
theorem d_G_init_77 : decode b_G_init 77 = .ok (.sipush 2412, 3) := by decide +kernel
theorem d_G_init_80 : decode b_G_init 80 = .ok (.newarray .int, 2) := by decide +kernel
theorem d_G_init_82 : decode b_G_init 82 = .ok (.putfield 37, 3) := by decide +kernel
theorem d_G_init_85 : decode b_G_init 85 = .ok (.aload_n 0, 1) := by decide +kernel
theorem d_G_init_86 : decode b_G_init 86 = .ok (.sipush 201, 3) := by decide +kernel
theorem d_G_init_89 : decode b_G_init 89 = .ok (.newarray .int, 2) := by decide +kernel
theorem d_G_init_91 : decode b_G_init 91 = .ok (.putfield 40, 3) := by decide +kernel
theorem d_G_init_94 : decode b_G_init 94 = .ok (.return_, 1) := by decide +kernel
theorem d_G_keptTarget_0 : decode b_G_keptTarget 0 = .ok (.aload_n 0, 1) := by decide +kernel
theorem d_G_keptTarget_1 : decode b_G_keptTarget 1 = .ok (.getfield 31, 3) := by decide +kernel
theorem d_G_keptTarget_4 : decode b_G_keptTarget 4 = .ok (.iload_n 1, 1) := by decide +kernel
theorem d_G_keptTarget_5 : decode b_G_keptTarget 5 = .ok (.bipush 12, 2) := by decide +kernel
theorem d_G_keptTarget_7 : decode b_G_keptTarget 7 = .ok (.imul, 1) := by decide +kernel
theorem d_G_keptTarget_8 : decode b_G_keptTarget 8 = .ok (.iload_n 2, 1) := by decide +kernel
theorem d_G_keptTarget_9 : decode b_G_keptTarget 9 = .ok (.iadd, 1) := by decide +kernel
theorem d_G_keptTarget_10 : decode b_G_keptTarget 10 = .ok (.iaload, 1) := by decide +kernel
theorem d_G_keptTarget_11 : decode b_G_keptTarget 11 = .ok (.istore_n 3, 1) := by decide +kernel
theorem d_G_keptTarget_12 : decode b_G_keptTarget 12 = .ok (.iload_n 3, 1) := by decide +kernel
theorem d_G_keptTarget_13 : decode b_G_keptTarget 13 = .ok (.ifCond .eq 16, 3) := by decide +kernel
theorem d_G_keptTarget_16 : decode b_G_keptTarget 16 = .ok (.aload_n 0, 1) := by decide +kernel
theorem d_G_keptTarget_17 : decode b_G_keptTarget 17 = .ok (.getfield 22, 3) := by decide +kernel
theorem d_G_keptTarget_20 : decode b_G_keptTarget 20 = .ok (.iload_n 3, 1) := by decide +kernel
theorem d_G_keptTarget_21 : decode b_G_keptTarget 21 = .ok (.baload, 1) := by decide +kernel
theorem d_G_keptTarget_22 : decode b_G_keptTarget 22 = .ok (.ifCond .eq 7, 3) := by decide +kernel
theorem d_G_keptTarget_25 : decode b_G_keptTarget 25 = .ok (.iload_n 3, 1) := by decide +kernel
theorem d_G_keptTarget_26 : decode b_G_keptTarget 26 = .ok (.goto 4, 3) := by decide +kernel
theorem d_G_keptTarget_29 : decode b_G_keptTarget 29 = .ok (.iconst 0, 1) := by decide +kernel
theorem d_G_keptTarget_30 : decode b_G_keptTarget 30 = .ok (.ireturn, 1) := by decide +kernel
theorem d_G_link_0 : decode b_G_link 0 = .ok (.iload_n 1, 1) := by decide +kernel
theorem d_G_link_1 : decode b_G_link 1 = .ok (.bipush 12, 2) := by decide +kernel
theorem d_G_link_3 : decode b_G_link 3 = .ok (.imul, 1) := by decide +kernel
theorem d_G_link_4 : decode b_G_link 4 = .ok (.iload_n 2, 1) := by decide +kernel
theorem d_G_link_5 : decode b_G_link 5 = .ok (.iadd, 1) := by decide +kernel
theorem d_G_link_6 : decode b_G_link 6 = .ok (.istore 4, 2) := by decide +kernel
theorem d_G_link_8 : decode b_G_link 8 = .ok (.aload_n 0, 1) := by decide +kernel
theorem d_G_link_9 : decode b_G_link 9 = .ok (.getfield 9, 3) := by decide +kernel
theorem d_G_link_12 : decode b_G_link 12 = .ok (.iload_n 3, 1) := by decide +kernel
theorem d_G_link_13 : decode b_G_link 13 = .ok (.iaload, 1) := by decide +kernel
theorem d_G_link_14 : decode b_G_link 14 = .ok (.ifCond .ne 22, 3) := by decide +kernel
theorem d_G_link_17 : decode b_G_link 17 = .ok (.aload_n 0, 1) := by decide +kernel
theorem d_G_link_18 : decode b_G_link 18 = .ok (.getfield 43, 3) := by decide +kernel
theorem d_G_link_21 : decode b_G_link 21 = .ok (.sipush 200, 3) := by decide +kernel
theorem d_G_link_24 : decode b_G_link 24 = .ok (.if_icmp .ne 5, 3) := by decide +kernel
theorem d_G_link_27 : decode b_G_link 27 = .ok (.iconst 0, 1) := by decide +kernel
theorem d_G_link_28 : decode b_G_link 28 = .ok (.ireturn, 1) := by decide +kernel
theorem d_G_link_29 : decode b_G_link 29 = .ok (.aload_n 0, 1) := by decide +kernel
theorem d_G_link_30 : decode b_G_link 30 = .ok (.iload_n 3, 1) := by decide +kernel
theorem d_G_link_31 : decode b_G_link 31 = .ok (.iload 4, 2) := by decide +kernel
theorem d_G_link_33 : decode b_G_link 33 = .ok (.invokevirtual 47, 3) := by decide +kernel
theorem d_G_link_36 : decode b_G_link 36 = .ok (.aload_n 0, 1) := by decide +kernel
theorem d_G_link_37 : decode b_G_link 37 = .ok (.getfield 9, 3) := by decide +kernel
theorem d_G_link_40 : decode b_G_link 40 = .ok (.iload_n 3, 1) := by decide +kernel
theorem d_G_link_41 : decode b_G_link 41 = .ok (.iaload, 1) := by decide +kernel
theorem d_G_link_42 : decode b_G_link 42 = .ok (.istore 5, 2) := by decide +kernel
theorem d_G_link_44 : decode b_G_link 44 = .ok (.aload_n 0, 1) := by decide +kernel
theorem d_G_link_45 : decode b_G_link 45 = .ok (.getfield 31, 3) := by decide +kernel
theorem d_G_link_48 : decode b_G_link 48 = .ok (.iload 4, 2) := by decide +kernel
theorem d_G_link_50 : decode b_G_link 50 = .ok (.iload 5, 2) := by decide +kernel
theorem d_G_link_52 : decode b_G_link 52 = .ok (.iastore, 1) := by decide +kernel
theorem d_G_link_53 : decode b_G_link 53 = .ok (.aload_n 0, 1) := by decide +kernel
theorem d_G_link_54 : decode b_G_link 54 = .ok (.getfield 37, 3) := by decide +kernel
theorem d_G_link_57 : decode b_G_link 57 = .ok (.iload 4, 2) := by decide +kernel
theorem d_G_link_59 : decode b_G_link 59 = .ok (.aload_n 0, 1) := by decide +kernel
theorem d_G_link_60 : decode b_G_link 60 = .ok (.getfield 34, 3) := by decide +kernel
theorem d_G_link_63 : decode b_G_link 63 = .ok (.iload 5, 2) := by decide +kernel
theorem d_G_link_65 : decode b_G_link 65 = .ok (.iaload, 1) := by decide +kernel
theorem d_G_link_66 : decode b_G_link 66 = .ok (.iastore, 1) := by decide +kernel
theorem d_G_link_67 : decode b_G_link 67 = .ok (.aload_n 0, 1) := by decide +kernel
theorem d_G_link_68 : decode b_G_link 68 = .ok (.getfield 34, 3) := by decide +kernel
theorem d_G_link_71 : decode b_G_link 71 = .ok (.iload 5, 2) := by decide +kernel
theorem d_G_link_73 : decode b_G_link 73 = .ok (.iload 4, 2) := by decide +kernel
theorem d_G_link_75 : decode b_G_link 75 = .ok (.iastore, 1) := by decide +kernel
theorem d_G_link_76 : decode b_G_link 76 = .ok (.iload 5, 2) := by decide +kernel
theorem d_G_link_78 : decode b_G_link 78 = .ok (.ireturn, 1) := by decide +kernel
theorem d_G_measure_0 : decode b_G_measure 0 = .ok (.iconst 0, 1) := by decide +kernel
theorem d_G_measure_1 : decode b_G_measure 1 = .ok (.istore_n 1, 1) := by decide +kernel
theorem d_G_measure_2 : decode b_G_measure 2 = .ok (.iconst 1, 1) := by decide +kernel
theorem d_G_measure_3 : decode b_G_measure 3 = .ok (.istore_n 2, 1) := by decide +kernel
theorem d_G_measure_4 : decode b_G_measure 4 = .ok (.iload_n 2, 1) := by decide +kernel
theorem d_G_measure_5 : decode b_G_measure 5 = .ok (.aload_n 0, 1) := by decide +kernel
theorem d_G_measure_6 : decode b_G_measure 6 = .ok (.getfield 43, 3) := by decide +kernel
theorem d_G_measure_9 : decode b_G_measure 9 = .ok (.if_icmp .gt 62, 3) := by decide +kernel
theorem d_G_measure_12 : decode b_G_measure 12 = .ok (.aload_n 0, 1) := by decide +kernel
theorem d_G_measure_13 : decode b_G_measure 13 = .ok (.getfield 22, 3) := by decide +kernel
theorem d_G_measure_16 : decode b_G_measure 16 = .ok (.iload_n 2, 1) := by decide +kernel
theorem d_G_measure_17 : decode b_G_measure 17 = .ok (.baload, 1) := by decide +kernel
theorem d_G_measure_18 : decode b_G_measure 18 = .ok (.ifCond .eq 16, 3) := by decide +kernel
theorem d_G_measure_21 : decode b_G_measure 21 = .ok (.aload_n 0, 1) := by decide +kernel
theorem d_G_measure_22 : decode b_G_measure 22 = .ok (.getfield 18, 3) := by decide +kernel
theorem d_G_measure_25 : decode b_G_measure 25 = .ok (.iload_n 2, 1) := by decide +kernel
theorem d_G_measure_26 : decode b_G_measure 26 = .ok (.baload, 1) := by decide +kernel
theorem d_G_measure_27 : decode b_G_measure 27 = .ok (.ifCond .eq 7, 3) := by decide +kernel
theorem d_G_measure_30 : decode b_G_measure 30 = .ok (.iconst 1, 1) := by decide +kernel
theorem d_G_measure_31 : decode b_G_measure 31 = .ok (.goto 4, 3) := by decide +kernel
theorem d_G_measure_34 : decode b_G_measure 34 = .ok (.iconst 0, 1) := by decide +kernel
theorem d_G_measure_35 : decode b_G_measure 35 = .ok (.istore_n 3, 1) := by decide +kernel
theorem d_G_measure_36 : decode b_G_measure 36 = .ok (.aload_n 0, 1) := by decide +kernel
theorem d_G_measure_37 : decode b_G_measure 37 = .ok (.getfield 25, 3) := by decide +kernel
theorem d_G_measure_40 : decode b_G_measure 40 = .ok (.iload_n 2, 1) := by decide +kernel
theorem d_G_measure_41 : decode b_G_measure 41 = .ok (.iload_n 3, 1) := by decide +kernel
theorem d_G_measure_42 : decode b_G_measure 42 = .ok (.ifCond .eq 7, 3) := by decide +kernel
theorem d_G_measure_45 : decode b_G_measure 45 = .ok (.iconst 0, 1) := by decide +kernel
theorem d_G_measure_46 : decode b_G_measure 46 = .ok (.goto 4, 3) := by decide +kernel
theorem d_G_measure_49 : decode b_G_measure 49 = .ok (.iconst (-1), 1) := by decide +kernel
theorem d_G_measure_50 : decode b_G_measure 50 = .ok (.iastore, 1) := by decide +kernel
theorem d_G_measure_51 : decode b_G_measure 51 = .ok (.iload_n 3, 1) := by decide +kernel
theorem d_G_measure_52 : decode b_G_measure 52 = .ok (.ifCond .eq 13, 3) := by decide +kernel
theorem d_G_measure_55 : decode b_G_measure 55 = .ok (.aload_n 0, 1) := by decide +kernel
theorem d_G_measure_56 : decode b_G_measure 56 = .ok (.getfield 40, 3) := by decide +kernel
theorem d_G_measure_59 : decode b_G_measure 59 = .ok (.iload_n 1, 1) := by decide +kernel
theorem d_G_measure_60 : decode b_G_measure 60 = .ok (.iload_n 2, 1) := by decide +kernel
theorem d_G_measure_61 : decode b_G_measure 61 = .ok (.iastore, 1) := by decide +kernel
theorem d_G_measure_62 : decode b_G_measure 62 = .ok (.iinc 1 1, 3) := by decide +kernel
theorem d_G_measure_65 : decode b_G_measure 65 = .ok (.iinc 2 1, 3) := by decide +kernel
theorem d_G_measure_68 : decode b_G_measure 68 = .ok (.goto (-64), 3) := by decide +kernel
theorem d_G_measure_71 : decode b_G_measure 71 = .ok (.iconst 0, 1) := by decide +kernel
theorem d_G_measure_72 : decode b_G_measure 72 = .ok (.istore_n 2, 1) := by decide +kernel
theorem d_G_measure_73 : decode b_G_measure 73 = .ok (.iload_n 2, 1) := by decide +kernel
theorem d_G_measure_74 : decode b_G_measure 74 = .ok (.iload_n 1, 1) := by decide +kernel
theorem d_G_measure_75 : decode b_G_measure 75 = .ok (.if_icmp .ge 28, 3) := by decide +kernel
theorem d_G_measure_78 : decode b_G_measure 78 = .ok (.iload_n 2, 1) := by decide +kernel
theorem d_G_measure_79 : decode b_G_measure 79 = .ok (.sipush 200, 3) := by decide +kernel
theorem d_G_measure_82 : decode b_G_measure 82 = .ok (.if_icmp .ge 21, 3) := by decide +kernel
theorem d_G_measure_85 : decode b_G_measure 85 = .ok (.aload_n 0, 1) := by decide +kernel
theorem d_G_measure_86 : decode b_G_measure 86 = .ok (.aload_n 0, 1) := by decide +kernel
theorem d_G_measure_87 : decode b_G_measure 87 = .ok (.getfield 40, 3) := by decide +kernel
theorem d_G_measure_90 : decode b_G_measure 90 = .ok (.iload_n 2, 1) := by decide +kernel
theorem d_G_measure_91 : decode b_G_measure 91 = .ok (.iaload, 1) := by decide +kernel
theorem d_G_measure_92 : decode b_G_measure 92 = .ok (.iload_n 1, 1) := by decide +kernel
theorem d_G_measure_93 : decode b_G_measure 93 = .ok (.invokevirtual 51, 3) := by decide +kernel
theorem d_G_measure_96 : decode b_G_measure 96 = .ok (.istore_n 1, 1) := by decide +kernel
theorem d_G_measure_97 : decode b_G_measure 97 = .ok (.iinc 2 1, 3) := by decide +kernel
theorem d_G_measure_100 : decode b_G_measure 100 = .ok (.goto (-27), 3) := by decide +kernel
theorem d_G_measure_103 : decode b_G_measure 103 = .ok (.return_, 1) := by decide +kernel
theorem d_G_measureInto_0 : decode b_G_measureInto 0 = .ok (.iload_n 2, 1) := by decide +kernel
theorem d_G_measureInto_1 : decode b_G_measureInto 1 = .ok (.istore_n 3, 1) := by decide +kernel
theorem d_G_measureInto_2 : decode b_G_measureInto 2 = .ok (.aload_n 0, 1) := by decide +kernel
theorem d_G_measureInto_3 : decode b_G_measureInto 3 = .ok (.getfield 34, 3) := by decide +kernel
theorem d_G_measureInto_6 : decode b_G_measureInto 6 = .ok (.iload_n 1, 1) := by decide +kernel
theorem d_G_measureInto_7 : decode b_G_measureInto 7 = .ok (.iaload, 1) := by decide +kernel
theorem d_G_measureInto_8 : decode b_G_measureInto 8 = .ok (.istore 4, 2) := by decide +kernel
theorem d_G_measureInto_10 : decode b_G_measureInto 10 = .ok (.iconst 0, 1) := by decide +kernel
theorem d_G_measureInto_11 : decode b_G_measureInto 11 = .ok (.istore 5, 2) := by decide +kernel
theorem d_G_measureInto_13 : decode b_G_measureInto 13 = .ok (.iload 4, 2) := by decide +kernel
theorem d_G_measureInto_15 : decode b_G_measureInto 15 = .ok (.ifCond .eq 80, 3) := by decide +kernel
theorem d_G_measureInto_18 : decode b_G_measureInto 18 = .ok (.iload 5, 2) := by decide +kernel
theorem d_G_measureInto_20 : decode b_G_measureInto 20 = .ok (.sipush 2412, 3) := by decide +kernel
theorem d_G_measureInto_23 : decode b_G_measureInto 23 = .ok (.if_icmp .ge 72, 3) := by decide +kernel
theorem d_G_measureInto_26 : decode b_G_measureInto 26 = .ok (.iload 4, 2) := by decide +kernel
theorem d_G_measureInto_28 : decode b_G_measureInto 28 = .ok (.bipush 12, 2) := by decide +kernel
theorem d_G_measureInto_30 : decode b_G_measureInto 30 = .ok (.idiv, 1) := by decide +kernel
theorem d_G_measureInto_31 : decode b_G_measureInto 31 = .ok (.istore 6, 2) := by decide +kernel
theorem d_G_measureInto_33 : decode b_G_measureInto 33 = .ok (.aload_n 0, 1) := by decide +kernel
theorem d_G_measureInto_34 : decode b_G_measureInto 34 = .ok (.getfield 22, 3) := by decide +kernel
theorem d_G_measureInto_37 : decode b_G_measureInto 37 = .ok (.iload 6, 2) := by decide +kernel
theorem d_G_measureInto_39 : decode b_G_measureInto 39 = .ok (.baload, 1) := by decide +kernel
theorem d_G_measureInto_40 : decode b_G_measureInto 40 = .ok (.ifCond .eq 40, 3) := by decide +kernel
theorem d_G_measureInto_43 : decode b_G_measureInto 43 = .ok (.aload_n 0, 1) := by decide +kernel
theorem d_G_measureInto_44 : decode b_G_measureInto 44 = .ok (.getfield 25, 3) := by decide +kernel
theorem d_G_measureInto_47 : decode b_G_measureInto 47 = .ok (.iload 6, 2) := by decide +kernel
theorem d_G_measureInto_49 : decode b_G_measureInto 49 = .ok (.iaload, 1) := by decide +kernel
theorem d_G_measureInto_50 : decode b_G_measureInto 50 = .ok (.iconst (-1), 1) := by decide +kernel
theorem d_G_measureInto_51 : decode b_G_measureInto 51 = .ok (.if_icmp .ne 29, 3) := by decide +kernel
theorem d_G_measureInto_54 : decode b_G_measureInto 54 = .ok (.aload_n 0, 1) := by decide +kernel
theorem d_G_measureInto_55 : decode b_G_measureInto 55 = .ok (.getfield 25, 3) := by decide +kernel
theorem d_G_measureInto_58 : decode b_G_measureInto 58 = .ok (.iload 6, 2) := by decide +kernel
theorem d_G_measureInto_60 : decode b_G_measureInto 60 = .ok (.aload_n 0, 1) := by decide +kernel
theorem d_G_measureInto_61 : decode b_G_measureInto 61 = .ok (.getfield 25, 3) := by decide +kernel
theorem d_G_measureInto_64 : decode b_G_measureInto 64 = .ok (.iload_n 1, 1) := by decide +kernel
theorem d_G_measureInto_65 : decode b_G_measureInto 65 = .ok (.iaload, 1) := by decide +kernel
theorem d_G_measureInto_66 : decode b_G_measureInto 66 = .ok (.iconst 1, 1) := by decide +kernel
theorem d_G_measureInto_67 : decode b_G_measureInto 67 = .ok (.iadd, 1) := by decide +kernel
theorem d_G_measureInto_68 : decode b_G_measureInto 68 = .ok (.iastore, 1) := by decide +kernel
theorem d_G_measureInto_69 : decode b_G_measureInto 69 = .ok (.aload_n 0, 1) := by decide +kernel
theorem d_G_measureInto_70 : decode b_G_measureInto 70 = .ok (.getfield 40, 3) := by decide +kernel
theorem d_G_measureInto_73 : decode b_G_measureInto 73 = .ok (.iload_n 3, 1) := by decide +kernel
theorem d_G_measureInto_74 : decode b_G_measureInto 74 = .ok (.iload 6, 2) := by decide +kernel
theorem d_G_measureInto_76 : decode b_G_measureInto 76 = .ok (.iastore, 1) := by decide +kernel
theorem d_G_measureInto_77 : decode b_G_measureInto 77 = .ok (.iinc 3 1, 3) := by decide +kernel
theorem d_G_measureInto_80 : decode b_G_measureInto 80 = .ok (.aload_n 0, 1) := by decide +kernel
theorem d_G_measureInto_81 : decode b_G_measureInto 81 = .ok (.getfield 37, 3) := by decide +kernel
theorem d_G_measureInto_84 : decode b_G_measureInto 84 = .ok (.iload 4, 2) := by decide +kernel
theorem d_G_measureInto_86 : decode b_G_measureInto 86 = .ok (.iaload, 1) := by decide +kernel
theorem d_G_measureInto_87 : decode b_G_measureInto 87 = .ok (.istore 4, 2) := by decide +kernel
theorem d_G_measureInto_89 : decode b_G_measureInto 89 = .ok (.iinc 5 1, 3) := by decide +kernel
theorem d_G_measureInto_92 : decode b_G_measureInto 92 = .ok (.goto (-79), 3) := by decide +kernel
theorem d_G_measureInto_95 : decode b_G_measureInto 95 = .ok (.iload_n 3, 1) := by decide +kernel
theorem d_G_measureInto_96 : decode b_G_measureInto 96 = .ok (.ireturn, 1) := by decide +kernel
theorem d_Y_build_0 : decode b_Y_build 0 = .ok (.aload_n 0, 1) := by decide +kernel
theorem d_Y_build_1 : decode b_Y_build 1 = .ok (.iload_n 1, 1) := by decide +kernel
theorem d_Y_build_2 : decode b_Y_build 2 = .ok (.invokevirtual 29, 3) := by decide +kernel
theorem d_Y_build_5 : decode b_Y_build 5 = .ok (.ifCond .ne 5, 3) := by decide +kernel
theorem d_Y_build_8 : decode b_Y_build 8 = .ok (.iconst 0, 1) := by decide +kernel
theorem d_Y_build_9 : decode b_Y_build 9 = .ok (.ireturn, 1) := by decide +kernel
theorem d_Y_build_10 : decode b_Y_build 10 = .ok (.aload_n 0, 1) := by decide +kernel
theorem d_Y_build_11 : decode b_Y_build 11 = .ok (.invokevirtual 33, 3) := by decide +kernel
theorem d_Y_build_14 : decode b_Y_build 14 = .ok (.aload_n 2, 1) := by decide +kernel
theorem d_Y_build_15 : decode b_Y_build 15 = .ok (.aload_n 0, 1) := by decide +kernel
theorem d_Y_build_16 : decode b_Y_build 16 = .ok (.getfield 25, 3) := by decide +kernel
theorem d_Y_build_19 : decode b_Y_build 19 = .ok (.getfield 36, 3) := by decide +kernel
theorem d_Y_build_22 : decode b_Y_build 22 = .ok (.putfield 42, 3) := by decide +kernel
theorem d_Y_build_25 : decode b_Y_build 25 = .ok (.aload_n 2, 1) := by decide +kernel
theorem d_Y_build_26 : decode b_Y_build 26 = .ok (.aload_n 0, 1) := by decide +kernel
theorem d_Y_build_27 : decode b_Y_build 27 = .ok (.getfield 25, 3) := by decide +kernel
theorem d_Y_build_30 : decode b_Y_build 30 = .ok (.invokevirtual 47, 3) := by decide +kernel
theorem d_Y_build_33 : decode b_Y_build 33 = .ok (.putfield 51, 3) := by decide +kernel
theorem d_Y_build_36 : decode b_Y_build 36 = .ok (.aload_n 0, 1) := by decide +kernel
theorem d_Y_build_37 : decode b_Y_build 37 = .ok (.aload_n 2, 1) := by decide +kernel
theorem d_Y_build_38 : decode b_Y_build 38 = .ok (.invokevirtual 54, 3) := by decide +kernel
theorem d_Y_build_41 : decode b_Y_build 41 = .ok (.aload_n 0, 1) := by decide +kernel
theorem d_Y_build_42 : decode b_Y_build 42 = .ok (.aload_n 2, 1) := by decide +kernel
theorem d_Y_build_43 : decode b_Y_build 43 = .ok (.invokevirtual 58, 3) := by decide +kernel
theorem d_Y_build_46 : decode b_Y_build 46 = .ok (.iconst 1, 1) := by decide +kernel
theorem d_Y_build_47 : decode b_Y_build 47 = .ok (.ireturn, 1) := by decide +kernel
theorem d_Y_dropUnruly_0 : decode b_Y_dropUnruly 0 = .ok (.iconst 0, 1) := by decide +kernel
theorem d_Y_dropUnruly_1 : decode b_Y_dropUnruly 1 = .ok (.istore_n 1, 1) := by decide +kernel
theorem d_Y_dropUnruly_2 : decode b_Y_dropUnruly 2 = .ok (.aload_n 0, 1) := by decide +kernel
theorem d_Y_dropUnruly_3 : decode b_Y_dropUnruly 3 = .ok (.getfield 25, 3) := by decide +kernel
theorem d_Y_dropUnruly_6 : decode b_Y_dropUnruly 6 = .ok (.getfield 36, 3) := by decide +kernel
theorem d_Y_dropUnruly_9 : decode b_Y_dropUnruly 9 = .ok (.istore_n 2, 1) := by decide +kernel
theorem d_Y_dropUnruly_10 : decode b_Y_dropUnruly 10 = .ok (.iload_n 2, 1) := by decide +kernel
theorem d_Y_dropUnruly_11 : decode b_Y_dropUnruly 11 = .ok (.iconst 1, 1) := by decide +kernel
theorem d_Y_dropUnruly_12 : decode b_Y_dropUnruly 12 = .ok (.if_icmp .lt 41, 3) := by decide +kernel
theorem d_Y_dropUnruly_15 : decode b_Y_dropUnruly 15 = .ok (.aload_n 0, 1) := by decide +kernel
theorem d_Y_dropUnruly_16 : decode b_Y_dropUnruly 16 = .ok (.getfield 25, 3) := by decide +kernel
theorem d_Y_dropUnruly_19 : decode b_Y_dropUnruly 19 = .ok (.getfield 85, 3) := by decide +kernel
theorem d_Y_dropUnruly_22 : decode b_Y_dropUnruly 22 = .ok (.iload_n 2, 1) := by decide +kernel
theorem d_Y_dropUnruly_23 : decode b_Y_dropUnruly 23 = .ok (.baload, 1) := by decide +kernel
theorem d_Y_dropUnruly_24 : decode b_Y_dropUnruly 24 = .ok (.ifCond .eq 23, 3) := by decide +kernel
theorem d_Y_dropUnruly_27 : decode b_Y_dropUnruly 27 = .ok (.aload_n 0, 1) := by decide +kernel
theorem d_Y_dropUnruly_28 : decode b_Y_dropUnruly 28 = .ok (.iload_n 2, 1) := by decide +kernel
theorem d_Y_dropUnruly_29 : decode b_Y_dropUnruly 29 = .ok (.invokevirtual 117, 3) := by decide +kernel
theorem d_Y_dropUnruly_32 : decode b_Y_dropUnruly 32 = .ok (.ifCond .eq 15, 3) := by decide +kernel
theorem d_Y_dropUnruly_35 : decode b_Y_dropUnruly 35 = .ok (.aload_n 0, 1) := by decide +kernel
theorem d_Y_dropUnruly_36 : decode b_Y_dropUnruly 36 = .ok (.getfield 25, 3) := by decide +kernel
theorem d_Y_dropUnruly_39 : decode b_Y_dropUnruly 39 = .ok (.getfield 85, 3) := by decide +kernel
theorem d_Y_dropUnruly_42 : decode b_Y_dropUnruly 42 = .ok (.iload_n 2, 1) := by decide +kernel
theorem d_Y_dropUnruly_43 : decode b_Y_dropUnruly 43 = .ok (.iconst 0, 1) := by decide +kernel
theorem d_Y_dropUnruly_44 : decode b_Y_dropUnruly 44 = .ok (.bastore, 1) := by decide +kernel
theorem d_Y_dropUnruly_45 : decode b_Y_dropUnruly 45 = .ok (.iconst 1, 1) := by decide +kernel
theorem d_Y_dropUnruly_46 : decode b_Y_dropUnruly 46 = .ok (.istore_n 1, 1) := by decide +kernel
theorem d_Y_dropUnruly_47 : decode b_Y_dropUnruly 47 = .ok (.iinc 2 (-1), 3) := by decide +kernel
theorem d_Y_dropUnruly_50 : decode b_Y_dropUnruly 50 = .ok (.goto (-40), 3) := by decide +kernel
theorem d_Y_dropUnruly_53 : decode b_Y_dropUnruly 53 = .ok (.iload_n 1, 1) := by decide +kernel
theorem d_Y_dropUnruly_54 : decode b_Y_dropUnruly 54 = .ok (.ireturn, 1) := by decide +kernel
theorem d_Y_explore_0 : decode b_Y_explore 0 = .ok (.aload_n 0, 1) := by decide +kernel
theorem d_Y_explore_1 : decode b_Y_explore 1 = .ok (.getfield 25, 3) := by decide +kernel
theorem d_Y_explore_4 : decode b_Y_explore 4 = .ok (.aload_n 0, 1) := by decide +kernel
theorem d_Y_explore_5 : decode b_Y_explore 5 = .ok (.getfield 21, 3) := by decide +kernel
theorem d_Y_explore_8 : decode b_Y_explore 8 = .ok (.iload_n 1, 1) := by decide +kernel
theorem d_Y_explore_9 : decode b_Y_explore 9 = .ok (.invokevirtual 61, 3) := by decide +kernel
theorem d_Y_explore_12 : decode b_Y_explore 12 = .ok (.invokevirtual 67, 3) := by decide +kernel
theorem d_Y_explore_15 : decode b_Y_explore 15 = .ok (.iconst 1, 1) := by decide +kernel
theorem d_Y_explore_16 : decode b_Y_explore 16 = .ok (.istore_n 2, 1) := by decide +kernel
theorem d_Y_explore_17 : decode b_Y_explore 17 = .ok (.iload_n 2, 1) := by decide +kernel
theorem d_Y_explore_18 : decode b_Y_explore 18 = .ok (.aload_n 0, 1) := by decide +kernel
theorem d_Y_explore_19 : decode b_Y_explore 19 = .ok (.getfield 25, 3) := by decide +kernel
theorem d_Y_explore_22 : decode b_Y_explore 22 = .ok (.getfield 36, 3) := by decide +kernel
theorem d_Y_explore_25 : decode b_Y_explore 25 = .ok (.if_icmp .gt 27, 3) := by decide +kernel
theorem d_Y_explore_28 : decode b_Y_explore 28 = .ok (.iload_n 2, 1) := by decide +kernel
theorem d_Y_explore_29 : decode b_Y_explore 29 = .ok (.sipush 200, 3) := by decide +kernel
theorem d_Y_explore_32 : decode b_Y_explore 32 = .ok (.if_icmp .gt 20, 3) := by decide +kernel
theorem d_Y_explore_35 : decode b_Y_explore 35 = .ok (.aload_n 0, 1) := by decide +kernel
theorem d_Y_explore_36 : decode b_Y_explore 36 = .ok (.iload_n 2, 1) := by decide +kernel
theorem d_Y_explore_37 : decode b_Y_explore 37 = .ok (.iload_n 1, 1) := by decide +kernel
theorem d_Y_explore_38 : decode b_Y_explore 38 = .ok (.invokevirtual 71, 3) := by decide +kernel
theorem d_Y_explore_41 : decode b_Y_explore 41 = .ok (.ifCond .ne 5, 3) := by decide +kernel
theorem d_Y_explore_44 : decode b_Y_explore 44 = .ok (.iconst 0, 1) := by decide +kernel
theorem d_Y_explore_45 : decode b_Y_explore 45 = .ok (.ireturn, 1) := by decide +kernel
theorem d_Y_explore_46 : decode b_Y_explore 46 = .ok (.iinc 2 1, 3) := by decide +kernel
theorem d_Y_explore_49 : decode b_Y_explore 49 = .ok (.goto (-32), 3) := by decide +kernel
theorem d_Y_explore_52 : decode b_Y_explore 52 = .ok (.iconst 1, 1) := by decide +kernel
theorem d_Y_explore_53 : decode b_Y_explore 53 = .ok (.ireturn, 1) := by decide +kernel
theorem d_Y_exploreFrom_0 : decode b_Y_exploreFrom 0 = .ok (.aload_n 0, 1) := by decide +kernel
theorem d_Y_exploreFrom_1 : decode b_Y_exploreFrom 1 = .ok (.getfield 25, 3) := by decide +kernel
theorem d_Y_exploreFrom_4 : decode b_Y_exploreFrom 4 = .ok (.getfield 75, 3) := by decide +kernel
theorem d_Y_exploreFrom_7 : decode b_Y_exploreFrom 7 = .ok (.iload_n 1, 1) := by decide +kernel
theorem d_Y_exploreFrom_8 : decode b_Y_exploreFrom 8 = .ok (.iaload, 1) := by decide +kernel
theorem d_Y_exploreFrom_9 : decode b_Y_exploreFrom 9 = .ok (.istore_n 3, 1) := by decide +kernel
theorem d_Y_exploreFrom_10 : decode b_Y_exploreFrom 10 = .ok (.aload_n 0, 1) := by decide +kernel
theorem d_Y_exploreFrom_11 : decode b_Y_exploreFrom 11 = .ok (.getfield 25, 3) := by decide +kernel
theorem d_Y_exploreFrom_14 : decode b_Y_exploreFrom 14 = .ok (.getfield 78, 3) := by decide +kernel
theorem d_Y_exploreFrom_17 : decode b_Y_exploreFrom 17 = .ok (.iload_n 1, 1) := by decide +kernel
theorem d_Y_exploreFrom_18 : decode b_Y_exploreFrom 18 = .ok (.aload_n 0, 1) := by decide +kernel
theorem d_Y_exploreFrom_19 : decode b_Y_exploreFrom 19 = .ok (.getfield 21, 3) := by decide +kernel
theorem d_Y_exploreFrom_22 : decode b_Y_exploreFrom 22 = .ok (.iload_n 3, 1) := by decide +kernel
theorem d_Y_exploreFrom_23 : decode b_Y_exploreFrom 23 = .ok (.iload_n 2, 1) := by decide +kernel
theorem d_Y_exploreFrom_24 : decode b_Y_exploreFrom 24 = .ok (.invokevirtual 82, 3) := by decide +kernel
theorem d_Y_exploreFrom_27 : decode b_Y_exploreFrom 27 = .ok (.bastore, 1) := by decide +kernel
theorem d_Y_exploreFrom_28 : decode b_Y_exploreFrom 28 = .ok (.aload_n 0, 1) := by decide +kernel
theorem d_Y_exploreFrom_29 : decode b_Y_exploreFrom 29 = .ok (.getfield 25, 3) := by decide +kernel
theorem d_Y_exploreFrom_32 : decode b_Y_exploreFrom 32 = .ok (.getfield 85, 3) := by decide +kernel
theorem d_Y_exploreFrom_35 : decode b_Y_exploreFrom 35 = .ok (.iload_n 1, 1) := by decide +kernel
theorem d_Y_exploreFrom_36 : decode b_Y_exploreFrom 36 = .ok (.aload_n 0, 1) := by decide +kernel
theorem d_Y_exploreFrom_37 : decode b_Y_exploreFrom 37 = .ok (.getfield 21, 3) := by decide +kernel
theorem d_Y_exploreFrom_40 : decode b_Y_exploreFrom 40 = .ok (.iload_n 3, 1) := by decide +kernel
theorem d_Y_exploreFrom_41 : decode b_Y_exploreFrom 41 = .ok (.iload_n 2, 1) := by decide +kernel
theorem d_Y_exploreFrom_42 : decode b_Y_exploreFrom 42 = .ok (.invokevirtual 88, 3) := by decide +kernel
theorem d_Y_exploreFrom_45 : decode b_Y_exploreFrom 45 = .ok (.ifCond .ne 7, 3) := by decide +kernel
theorem d_Y_exploreFrom_48 : decode b_Y_exploreFrom 48 = .ok (.iconst 1, 1) := by decide +kernel
theorem d_Y_exploreFrom_49 : decode b_Y_exploreFrom 49 = .ok (.goto 4, 3) := by decide +kernel
theorem d_Y_exploreFrom_52 : decode b_Y_exploreFrom 52 = .ok (.iconst 0, 1) := by decide +kernel
theorem d_Y_exploreFrom_53 : decode b_Y_exploreFrom 53 = .ok (.bastore, 1) := by decide +kernel
theorem d_Y_exploreFrom_54 : decode b_Y_exploreFrom 54 = .ok (.aload_n 0, 1) := by decide +kernel
theorem d_Y_exploreFrom_55 : decode b_Y_exploreFrom 55 = .ok (.getfield 9, 3) := by decide +kernel
theorem d_Y_exploreFrom_58 : decode b_Y_exploreFrom 58 = .ok (.iload_n 1, 1) := by decide +kernel
theorem d_Y_exploreFrom_59 : decode b_Y_exploreFrom 59 = .ok (.aload_n 0, 1) := by decide +kernel
theorem d_Y_exploreFrom_60 : decode b_Y_exploreFrom 60 = .ok (.getfield 21, 3) := by decide +kernel
theorem d_Y_exploreFrom_63 : decode b_Y_exploreFrom 63 = .ok (.iload_n 3, 1) := by decide +kernel
theorem d_Y_exploreFrom_64 : decode b_Y_exploreFrom 64 = .ok (.invokevirtual 91, 3) := by decide +kernel
theorem d_Y_exploreFrom_67 : decode b_Y_exploreFrom 67 = .ok (.iastore, 1) := by decide +kernel
theorem d_Y_exploreFrom_68 : decode b_Y_exploreFrom 68 = .ok (.aload_n 0, 1) := by decide +kernel
theorem d_Y_exploreFrom_69 : decode b_Y_exploreFrom 69 = .ok (.getfield 9, 3) := by decide +kernel
theorem d_Y_exploreFrom_72 : decode b_Y_exploreFrom 72 = .ok (.iload_n 1, 1) := by decide +kernel
theorem d_Y_exploreFrom_73 : decode b_Y_exploreFrom 73 = .ok (.iaload, 1) := by decide +kernel
theorem d_Y_exploreFrom_74 : decode b_Y_exploreFrom 74 = .ok (.aload_n 0, 1) := by decide +kernel
theorem d_Y_exploreFrom_75 : decode b_Y_exploreFrom 75 = .ok (.getfield 21, 3) := by decide +kernel
theorem d_Y_exploreFrom_78 : decode b_Y_exploreFrom 78 = .ok (.iload_n 3, 1) := by decide +kernel
theorem d_Y_exploreFrom_79 : decode b_Y_exploreFrom 79 = .ok (.iload_n 2, 1) := by decide +kernel
theorem d_Y_exploreFrom_80 : decode b_Y_exploreFrom 80 = .ok (.invokevirtual 93, 3) := by decide +kernel
theorem d_Y_exploreFrom_83 : decode b_Y_exploreFrom 83 = .ok (.iand, 1) := by decide +kernel
theorem d_Y_exploreFrom_84 : decode b_Y_exploreFrom 84 = .ok (.istore 4, 2) := by decide +kernel
theorem d_Y_exploreFrom_86 : decode b_Y_exploreFrom 86 = .ok (.iconst 0, 1) := by decide +kernel
theorem d_Y_exploreFrom_87 : decode b_Y_exploreFrom 87 = .ok (.istore 5, 2) := by decide +kernel
theorem d_Y_exploreFrom_89 : decode b_Y_exploreFrom 89 = .ok (.iload 5, 2) := by decide +kernel
theorem d_Y_exploreFrom_91 : decode b_Y_exploreFrom 91 = .ok (.bipush 12, 2) := by decide +kernel
theorem d_Y_exploreFrom_93 : decode b_Y_exploreFrom 93 = .ok (.if_icmp .ge 45, 3) := by decide +kernel
theorem d_Y_exploreFrom_96 : decode b_Y_exploreFrom 96 = .ok (.iload 4, 2) := by decide +kernel
theorem d_Y_exploreFrom_98 : decode b_Y_exploreFrom 98 = .ok (.iload 5, 2) := by decide +kernel
theorem d_Y_exploreFrom_100 : decode b_Y_exploreFrom 100 = .ok (.invokestatic 97, 3) := by decide +kernel
theorem d_Y_exploreFrom_103 : decode b_Y_exploreFrom 103 = .ok (.ifCond .eq 29, 3) := by decide +kernel
theorem d_Y_exploreFrom_106 : decode b_Y_exploreFrom 106 = .ok (.aload_n 0, 1) := by decide +kernel
theorem d_Y_exploreFrom_107 : decode b_Y_exploreFrom 107 = .ok (.getfield 25, 3) := by decide +kernel
theorem d_Y_exploreFrom_110 : decode b_Y_exploreFrom 110 = .ok (.iload_n 1, 1) := by decide +kernel
theorem d_Y_exploreFrom_111 : decode b_Y_exploreFrom 111 = .ok (.iload 5, 2) := by decide +kernel
theorem d_Y_exploreFrom_113 : decode b_Y_exploreFrom 113 = .ok (.aload_n 0, 1) := by decide +kernel
theorem d_Y_exploreFrom_114 : decode b_Y_exploreFrom 114 = .ok (.getfield 21, 3) := by decide +kernel
theorem d_Y_exploreFrom_117 : decode b_Y_exploreFrom 117 = .ok (.iload_n 3, 1) := by decide +kernel
theorem d_Y_exploreFrom_118 : decode b_Y_exploreFrom 118 = .ok (.iload 5, 2) := by decide +kernel
theorem d_Y_exploreFrom_120 : decode b_Y_exploreFrom 120 = .ok (.iload_n 2, 1) := by decide +kernel
theorem d_Y_exploreFrom_121 : decode b_Y_exploreFrom 121 = .ok (.invokevirtual 100, 3) := by decide +kernel
theorem d_Y_exploreFrom_124 : decode b_Y_exploreFrom 124 = .ok (.invokevirtual 104, 3) := by decide +kernel
theorem d_Y_exploreFrom_127 : decode b_Y_exploreFrom 127 = .ok (.ifCond .ne 5, 3) := by decide +kernel
theorem d_Y_exploreFrom_130 : decode b_Y_exploreFrom 130 = .ok (.iconst 0, 1) := by decide +kernel
theorem d_Y_exploreFrom_131 : decode b_Y_exploreFrom 131 = .ok (.ireturn, 1) := by decide +kernel
theorem d_Y_exploreFrom_132 : decode b_Y_exploreFrom 132 = .ok (.iinc 5 1, 3) := by decide +kernel
theorem d_Y_exploreFrom_135 : decode b_Y_exploreFrom 135 = .ok (.goto (-46), 3) := by decide +kernel
theorem d_Y_exploreFrom_138 : decode b_Y_exploreFrom 138 = .ok (.iconst 1, 1) := by decide +kernel
theorem d_Y_exploreFrom_139 : decode b_Y_exploreFrom 139 = .ok (.ireturn, 1) := by decide +kernel
theorem d_Y_firstLost_0 : decode b_Y_firstLost 0 = .ok (.iconst 1, 1) := by decide +kernel
theorem d_Y_firstLost_1 : decode b_Y_firstLost 1 = .ok (.istore_n 1, 1) := by decide +kernel
theorem d_Y_firstLost_2 : decode b_Y_firstLost 2 = .ok (.iload_n 1, 1) := by decide +kernel
theorem d_Y_firstLost_3 : decode b_Y_firstLost 3 = .ok (.aload_n 0, 1) := by decide +kernel
theorem d_Y_firstLost_4 : decode b_Y_firstLost 4 = .ok (.getfield 25, 3) := by decide +kernel
theorem d_Y_firstLost_7 : decode b_Y_firstLost 7 = .ok (.getfield 36, 3) := by decide +kernel
theorem d_Y_firstLost_10 : decode b_Y_firstLost 10 = .ok (.if_icmp .gt 23, 3) := by decide +kernel
theorem d_Y_firstLost_13 : decode b_Y_firstLost 13 = .ok (.aload_n 0, 1) := by decide +kernel
theorem d_Y_firstLost_14 : decode b_Y_firstLost 14 = .ok (.getfield 25, 3) := by decide +kernel
theorem d_Y_firstLost_17 : decode b_Y_firstLost 17 = .ok (.getfield 85, 3) := by decide +kernel
theorem d_Y_firstLost_20 : decode b_Y_firstLost 20 = .ok (.iload_n 1, 1) := by decide +kernel
theorem d_Y_firstLost_21 : decode b_Y_firstLost 21 = .ok (.baload, 1) := by decide +kernel
theorem d_Y_firstLost_22 : decode b_Y_firstLost 22 = .ok (.ifCond .ne 5, 3) := by decide +kernel
theorem d_Y_firstLost_25 : decode b_Y_firstLost 25 = .ok (.iload_n 1, 1) := by decide +kernel
theorem d_Y_firstLost_26 : decode b_Y_firstLost 26 = .ok (.ireturn, 1) := by decide +kernel
theorem d_Y_firstLost_27 : decode b_Y_firstLost 27 = .ok (.iinc 1 1, 3) := by decide +kernel
theorem d_Y_firstLost_30 : decode b_Y_firstLost 30 = .ok (.goto (-28), 3) := by decide +kernel
theorem d_Y_firstLost_33 : decode b_Y_firstLost 33 = .ok (.iconst 0, 1) := by decide +kernel
theorem d_Y_firstLost_34 : decode b_Y_firstLost 34 = .ok (.ireturn, 1) := by decide +kernel
theorem d_Y_init_0 : decode b_Y_init 0 = .ok (.aload_n 0, 1) := by decide +kernel
theorem d_Y_init_1 : decode b_Y_init 1 = .ok (.invokespecial 3, 3) := by decide +kernel
theorem d_Y_init_4 : decode b_Y_init 4 = .ok (.aload_n 0, 1) := by decide +kernel
theorem d_Y_init_5 : decode b_Y_init 5 = .ok (.sipush 201, 3) := by decide +kernel
theorem d_Y_init_8 : decode b_Y_init 8 = .ok (.newarray .int, 2) := by decide +kernel
theorem d_Y_init_10 : decode b_Y_init 10 = .ok (.putfield 9, 3) := by decide +kernel
theorem d_Y_init_13 : decode b_Y_init 13 = .ok (.aload_n 0, 1) := by decide +kernel
theorem d_Y_init_14 : decode b_Y_init 14 = .ok (.sipush 201, 3) := by decide +kernel
theorem d_Y_init_17 : decode b_Y_init 17 = .ok (.newarray .int, 2) := by decide +kernel
theorem d_Y_init_19 : decode b_Y_init 19 = .ok (.putfield 15, 3) := by decide +kernel
theorem d_Y_init_22 : decode b_Y_init 22 = .ok (.aload_n 0, 1) := by decide +kernel
theorem d_Y_init_23 : decode b_Y_init 23 = .ok (.sipush 201, 3) := by decide +kernel
theorem d_Y_init_26 : decode b_Y_init 26 = .ok (.newarray .int, 2) := by decide +kernel
theorem d_Y_init_28 : decode b_Y_init 28 = .ok (.putfield 18, 3) := by decide +kernel
theorem d_Y_init_31 : decode b_Y_init 31 = .ok (.aload_n 0, 1) := by decide +kernel
theorem d_Y_init_32 : decode b_Y_init 32 = .ok (.aload_n 1, 1) := by decide +kernel
theorem d_Y_init_33 : decode b_Y_init 33 = .ok (.putfield 21, 3) := by decide +kernel
theorem d_Y_init_36 : decode b_Y_init 36 = .ok (.aload_n 0, 1) := by decide +kernel
theorem d_Y_init_37 : decode b_Y_init 37 = .ok (.aload_n 2, 1) := by decide +kernel
theorem d_Y_init_38 : decode b_Y_init 38 = .ok (.putfield 25, 3) := by decide +kernel
theorem d_Y_init_41 : decode b_Y_init 41 = .ok (.return_, 1) := by decide +kernel
theorem d_Y_isUnruly_0 : decode b_Y_isUnruly 0 = .ok (.aload_n 0, 1) := by decide +kernel
theorem d_Y_isUnruly_1 : decode b_Y_isUnruly 1 = .ok (.getfield 9, 3) := by decide +kernel
theorem d_Y_isUnruly_4 : decode b_Y_isUnruly 4 = .ok (.iload_n 1, 1) := by decide +kernel
theorem d_Y_isUnruly_5 : decode b_Y_isUnruly 5 = .ok (.iaload, 1) := by decide +kernel
theorem d_Y_isUnruly_6 : decode b_Y_isUnruly 6 = .ok (.aload_n 0, 1) := by decide +kernel
theorem d_Y_isUnruly_7 : decode b_Y_isUnruly 7 = .ok (.getfield 21, 3) := by decide +kernel
theorem d_Y_isUnruly_10 : decode b_Y_isUnruly 10 = .ok (.getfield 120, 3) := by decide +kernel
theorem d_Y_isUnruly_13 : decode b_Y_isUnruly 13 = .ok (.iconst (-1), 1) := by decide +kernel
theorem d_Y_isUnruly_14 : decode b_Y_isUnruly 14 = .ok (.ixor, 1) := by decide +kernel
theorem d_Y_isUnruly_15 : decode b_Y_isUnruly 15 = .ok (.iand, 1) := by decide +kernel
theorem d_Y_isUnruly_16 : decode b_Y_isUnruly 16 = .ok (.istore_n 2, 1) := by decide +kernel
theorem d_Y_isUnruly_17 : decode b_Y_isUnruly 17 = .ok (.iconst 0, 1) := by decide +kernel
theorem d_Y_isUnruly_18 : decode b_Y_isUnruly 18 = .ok (.istore_n 3, 1) := by decide +kernel
theorem d_Y_isUnruly_19 : decode b_Y_isUnruly 19 = .ok (.iload_n 3, 1) := by decide +kernel
theorem d_Y_isUnruly_20 : decode b_Y_isUnruly 20 = .ok (.bipush 12, 2) := by decide +kernel
theorem d_Y_isUnruly_22 : decode b_Y_isUnruly 22 = .ok (.if_icmp .ge 31, 3) := by decide +kernel
theorem d_Y_isUnruly_25 : decode b_Y_isUnruly 25 = .ok (.iload_n 2, 1) := by decide +kernel
theorem d_Y_isUnruly_26 : decode b_Y_isUnruly 26 = .ok (.iload_n 3, 1) := by decide +kernel
theorem d_Y_isUnruly_27 : decode b_Y_isUnruly 27 = .ok (.invokestatic 97, 3) := by decide +kernel
theorem d_Y_isUnruly_30 : decode b_Y_isUnruly 30 = .ok (.ifCond .eq 17, 3) := by decide +kernel
theorem d_Y_isUnruly_33 : decode b_Y_isUnruly 33 = .ok (.aload_n 0, 1) := by decide +kernel
theorem d_Y_isUnruly_34 : decode b_Y_isUnruly 34 = .ok (.getfield 25, 3) := by decide +kernel
theorem d_Y_isUnruly_37 : decode b_Y_isUnruly 37 = .ok (.iload_n 1, 1) := by decide +kernel
theorem d_Y_isUnruly_38 : decode b_Y_isUnruly 38 = .ok (.iload_n 3, 1) := by decide +kernel
theorem d_Y_isUnruly_39 : decode b_Y_isUnruly 39 = .ok (.invokevirtual 123, 3) := by decide +kernel
theorem d_Y_isUnruly_42 : decode b_Y_isUnruly 42 = .ok (.ifCond .ne 5, 3) := by decide +kernel
theorem d_Y_isUnruly_45 : decode b_Y_isUnruly 45 = .ok (.iconst 1, 1) := by decide +kernel
theorem d_Y_isUnruly_46 : decode b_Y_isUnruly 46 = .ok (.ireturn, 1) := by decide +kernel
theorem d_Y_isUnruly_47 : decode b_Y_isUnruly 47 = .ok (.iinc 3 1, 3) := by decide +kernel
theorem d_Y_isUnruly_50 : decode b_Y_isUnruly 50 = .ok (.goto (-31), 3) := by decide +kernel
theorem d_Y_isUnruly_53 : decode b_Y_isUnruly 53 = .ok (.iconst 0, 1) := by decide +kernel
theorem d_Y_isUnruly_54 : decode b_Y_isUnruly 54 = .ok (.ireturn, 1) := by decide +kernel
theorem d_Y_keepGood_0 : decode b_Y_keepGood 0 = .ok (.iconst 1, 1) := by decide +kernel
theorem d_Y_keepGood_1 : decode b_Y_keepGood 1 = .ok (.istore_n 1, 1) := by decide +kernel
theorem d_Y_keepGood_2 : decode b_Y_keepGood 2 = .ok (.iconst 0, 1) := by decide +kernel
theorem d_Y_keepGood_3 : decode b_Y_keepGood 3 = .ok (.istore_n 2, 1) := by decide +kernel
theorem d_Y_keepGood_4 : decode b_Y_keepGood 4 = .ok (.iload_n 1, 1) := by decide +kernel
theorem d_Y_keepGood_5 : decode b_Y_keepGood 5 = .ok (.ifCond .eq 40, 3) := by decide +kernel
theorem d_Y_keepGood_8 : decode b_Y_keepGood 8 = .ok (.iload_n 2, 1) := by decide +kernel
theorem d_Y_keepGood_9 : decode b_Y_keepGood 9 = .ok (.sipush 200, 3) := by decide +kernel
theorem d_Y_keepGood_12 : decode b_Y_keepGood 12 = .ok (.if_icmp .gt 33, 3) := by decide +kernel
theorem d_Y_keepGood_15 : decode b_Y_keepGood 15 = .ok (.aload_n 0, 1) := by decide +kernel
theorem d_Y_keepGood_16 : decode b_Y_keepGood 16 = .ok (.invokevirtual 107, 3) := by decide +kernel
theorem d_Y_keepGood_19 : decode b_Y_keepGood 19 = .ok (.istore_n 1, 1) := by decide +kernel
theorem d_Y_keepGood_20 : decode b_Y_keepGood 20 = .ok (.aload_n 0, 1) := by decide +kernel
theorem d_Y_keepGood_21 : decode b_Y_keepGood 21 = .ok (.getfield 25, 3) := by decide +kernel
theorem d_Y_keepGood_24 : decode b_Y_keepGood 24 = .ok (.invokevirtual 111, 3) := by decide +kernel
theorem d_Y_keepGood_27 : decode b_Y_keepGood 27 = .ok (.aload_n 0, 1) := by decide +kernel
theorem d_Y_keepGood_28 : decode b_Y_keepGood 28 = .ok (.getfield 25, 3) := by decide +kernel
theorem d_Y_keepGood_31 : decode b_Y_keepGood 31 = .ok (.invokevirtual 114, 3) := by decide +kernel
theorem d_Y_keepGood_34 : decode b_Y_keepGood 34 = .ok (.ifCond .eq 5, 3) := by decide +kernel
theorem d_Y_keepGood_37 : decode b_Y_keepGood 37 = .ok (.iconst 1, 1) := by decide +kernel
theorem d_Y_keepGood_38 : decode b_Y_keepGood 38 = .ok (.istore_n 1, 1) := by decide +kernel
theorem d_Y_keepGood_39 : decode b_Y_keepGood 39 = .ok (.iinc 2 1, 3) := by decide +kernel
theorem d_Y_keepGood_42 : decode b_Y_keepGood 42 = .ok (.goto (-38), 3) := by decide +kernel
theorem d_Y_keepGood_45 : decode b_Y_keepGood 45 = .ok (.return_, 1) := by decide +kernel
theorem d_Y_stateFor_0 : decode b_Y_stateFor 0 = .ok (.aload_n 0, 1) := by decide +kernel
theorem d_Y_stateFor_1 : decode b_Y_stateFor 1 = .ok (.getfield 15, 3) := by decide +kernel
theorem d_Y_stateFor_4 : decode b_Y_stateFor 4 = .ok (.iload_n 1, 1) := by decide +kernel
theorem d_Y_stateFor_5 : decode b_Y_stateFor 5 = .ok (.iaload, 1) := by decide +kernel
theorem d_Y_stateFor_6 : decode b_Y_stateFor 6 = .ok (.ifCond .ne 33, 3) := by decide +kernel
theorem d_Y_stateFor_9 : decode b_Y_stateFor 9 = .ok (.aload_n 2, 1) := by decide +kernel
theorem d_Y_stateFor_10 : decode b_Y_stateFor 10 = .ok (.dup, 1) := by decide +kernel
theorem d_Y_stateFor_11 : decode b_Y_stateFor 11 = .ok (.getfield 138, 3) := by decide +kernel
theorem d_Y_stateFor_14 : decode b_Y_stateFor 14 = .ok (.iconst 1, 1) := by decide +kernel
theorem d_Y_stateFor_15 : decode b_Y_stateFor 15 = .ok (.iadd, 1) := by decide +kernel
theorem d_Y_stateFor_16 : decode b_Y_stateFor 16 = .ok (.putfield 138, 3) := by decide +kernel
theorem d_Y_stateFor_19 : decode b_Y_stateFor 19 = .ok (.aload_n 0, 1) := by decide +kernel
theorem d_Y_stateFor_20 : decode b_Y_stateFor 20 = .ok (.getfield 15, 3) := by decide +kernel
theorem d_Y_stateFor_23 : decode b_Y_stateFor 23 = .ok (.iload_n 1, 1) := by decide +kernel
theorem d_Y_stateFor_24 : decode b_Y_stateFor 24 = .ok (.aload_n 2, 1) := by decide +kernel
theorem d_Y_stateFor_25 : decode b_Y_stateFor 25 = .ok (.getfield 138, 3) := by decide +kernel
theorem d_Y_stateFor_28 : decode b_Y_stateFor 28 = .ok (.iastore, 1) := by decide +kernel
theorem d_Y_stateFor_29 : decode b_Y_stateFor 29 = .ok (.aload_n 0, 1) := by decide +kernel
theorem d_Y_stateFor_30 : decode b_Y_stateFor 30 = .ok (.getfield 18, 3) := by decide +kernel
theorem d_Y_stateFor_33 : decode b_Y_stateFor 33 = .ok (.aload_n 2, 1) := by decide +kernel
theorem d_Y_stateFor_34 : decode b_Y_stateFor 34 = .ok (.getfield 138, 3) := by decide +kernel
theorem d_Y_stateFor_37 : decode b_Y_stateFor 37 = .ok (.iload_n 1, 1) := by decide +kernel
theorem d_Y_stateFor_38 : decode b_Y_stateFor 38 = .ok (.iastore, 1) := by decide +kernel
theorem d_Y_stateFor_39 : decode b_Y_stateFor 39 = .ok (.aload_n 0, 1) := by decide +kernel
theorem d_Y_stateFor_40 : decode b_Y_stateFor 40 = .ok (.getfield 15, 3) := by decide +kernel
theorem d_Y_stateFor_43 : decode b_Y_stateFor 43 = .ok (.iload_n 1, 1) := by decide +kernel
theorem d_Y_stateFor_44 : decode b_Y_stateFor 44 = .ok (.iaload, 1) := by decide +kernel
theorem d_Y_stateFor_45 : decode b_Y_stateFor 45 = .ok (.ireturn, 1) := by decide +kernel
theorem d_Y_writeState_0 : decode b_Y_writeState 0 = .ok (.aload_n 0, 1) := by decide +kernel
theorem d_Y_writeState_1 : decode b_Y_writeState 1 = .ok (.getfield 18, 3) := by decide +kernel
theorem d_Y_writeState_4 : decode b_Y_writeState 4 = .ok (.iload_n 1, 1) := by decide +kernel
theorem d_Y_writeState_5 : decode b_Y_writeState 5 = .ok (.iaload, 1) := by decide +kernel
theorem d_Y_writeState_6 : decode b_Y_writeState 6 = .ok (.istore_n 3, 1) := by decide +kernel
theorem d_Y_writeState_7 : decode b_Y_writeState 7 = .ok (.aload_n 2, 1) := by decide +kernel
theorem d_Y_writeState_8 : decode b_Y_writeState 8 = .ok (.getfield 147, 3) := by decide +kernel
theorem d_Y_writeState_11 : decode b_Y_writeState 11 = .ok (.iload_n 1, 1) := by decide +kernel
theorem d_Y_writeState_12 : decode b_Y_writeState 12 = .ok (.aload_n 0, 1) := by decide +kernel
theorem d_Y_writeState_13 : decode b_Y_writeState 13 = .ok (.getfield 25, 3) := by decide +kernel
theorem d_Y_writeState_16 : decode b_Y_writeState 16 = .ok (.getfield 75, 3) := by decide +kernel
theorem d_Y_writeState_19 : decode b_Y_writeState 19 = .ok (.iload_n 3, 1) := by decide +kernel
theorem d_Y_writeState_20 : decode b_Y_writeState 20 = .ok (.iaload, 1) := by decide +kernel
theorem d_Y_writeState_21 : decode b_Y_writeState 21 = .ok (.iastore, 1) := by decide +kernel
theorem d_Y_writeState_22 : decode b_Y_writeState 22 = .ok (.aload_n 2, 1) := by decide +kernel
theorem d_Y_writeState_23 : decode b_Y_writeState 23 = .ok (.getfield 148, 3) := by decide +kernel
theorem d_Y_writeState_26 : decode b_Y_writeState 26 = .ok (.iload_n 1, 1) := by decide +kernel
theorem d_Y_writeState_27 : decode b_Y_writeState 27 = .ok (.aload_n 0, 1) := by decide +kernel
theorem d_Y_writeState_28 : decode b_Y_writeState 28 = .ok (.getfield 9, 3) := by decide +kernel
theorem d_Y_writeState_31 : decode b_Y_writeState 31 = .ok (.iload_n 3, 1) := by decide +kernel
theorem d_Y_writeState_32 : decode b_Y_writeState 32 = .ok (.iaload, 1) := by decide +kernel
theorem d_Y_writeState_33 : decode b_Y_writeState 33 = .ok (.iastore, 1) := by decide +kernel
theorem d_Y_writeState_34 : decode b_Y_writeState 34 = .ok (.aload_n 2, 1) := by decide +kernel
theorem d_Y_writeState_35 : decode b_Y_writeState 35 = .ok (.getfield 149, 3) := by decide +kernel
theorem d_Y_writeState_38 : decode b_Y_writeState 38 = .ok (.iload_n 1, 1) := by decide +kernel
theorem d_Y_writeState_39 : decode b_Y_writeState 39 = .ok (.aload_n 0, 1) := by decide +kernel
theorem d_Y_writeState_40 : decode b_Y_writeState 40 = .ok (.getfield 25, 3) := by decide +kernel
theorem d_Y_writeState_43 : decode b_Y_writeState 43 = .ok (.getfield 152, 3) := by decide +kernel
theorem d_Y_writeState_46 : decode b_Y_writeState 46 = .ok (.iload_n 3, 1) := by decide +kernel
theorem d_Y_writeState_47 : decode b_Y_writeState 47 = .ok (.iaload, 1) := by decide +kernel
theorem d_Y_writeState_48 : decode b_Y_writeState 48 = .ok (.iastore, 1) := by decide +kernel
theorem d_Y_writeState_49 : decode b_Y_writeState 49 = .ok (.iconst 0, 1) := by decide +kernel
theorem d_Y_writeState_50 : decode b_Y_writeState 50 = .ok (.istore 4, 2) := by decide +kernel
theorem d_Y_writeState_52 : decode b_Y_writeState 52 = .ok (.iload 4, 2) := by decide +kernel
theorem d_Y_writeState_54 : decode b_Y_writeState 54 = .ok (.bipush 12, 2) := by decide +kernel
theorem d_Y_writeState_56 : decode b_Y_writeState 56 = .ok (.if_icmp .ge 49, 3) := by decide +kernel
theorem d_Y_writeState_59 : decode b_Y_writeState 59 = .ok (.aload_n 0, 1) := by decide +kernel
theorem d_Y_writeState_60 : decode b_Y_writeState 60 = .ok (.getfield 25, 3) := by decide +kernel
theorem d_Y_writeState_63 : decode b_Y_writeState 63 = .ok (.iload_n 3, 1) := by decide +kernel
theorem d_Y_writeState_64 : decode b_Y_writeState 64 = .ok (.iload 4, 2) := by decide +kernel
theorem d_Y_writeState_66 : decode b_Y_writeState 66 = .ok (.invokevirtual 123, 3) := by decide +kernel
theorem d_Y_writeState_69 : decode b_Y_writeState 69 = .ok (.istore 5, 2) := by decide +kernel
theorem d_Y_writeState_71 : decode b_Y_writeState 71 = .ok (.aload_n 2, 1) := by decide +kernel
theorem d_Y_writeState_72 : decode b_Y_writeState 72 = .ok (.getfield 153, 3) := by decide +kernel
theorem d_Y_writeState_75 : decode b_Y_writeState 75 = .ok (.iload_n 1, 1) := by decide +kernel
theorem d_Y_writeState_76 : decode b_Y_writeState 76 = .ok (.bipush 12, 2) := by decide +kernel
theorem d_Y_writeState_78 : decode b_Y_writeState 78 = .ok (.imul, 1) := by decide +kernel
theorem d_Y_writeState_79 : decode b_Y_writeState 79 = .ok (.iload 4, 2) := by decide +kernel
theorem d_Y_writeState_81 : decode b_Y_writeState 81 = .ok (.iadd, 1) := by decide +kernel
theorem d_Y_writeState_82 : decode b_Y_writeState 82 = .ok (.iload 5, 2) := by decide +kernel
theorem d_Y_writeState_84 : decode b_Y_writeState 84 = .ok (.ifCond .ne 7, 3) := by decide +kernel
theorem d_Y_writeState_87 : decode b_Y_writeState 87 = .ok (.iconst 0, 1) := by decide +kernel
theorem d_Y_writeState_88 : decode b_Y_writeState 88 = .ok (.goto 10, 3) := by decide +kernel
theorem d_Y_writeState_91 : decode b_Y_writeState 91 = .ok (.aload_n 0, 1) := by decide +kernel
theorem d_Y_writeState_92 : decode b_Y_writeState 92 = .ok (.iload 5, 2) := by decide +kernel
theorem d_Y_writeState_94 : decode b_Y_writeState 94 = .ok (.aload_n 2, 1) := by decide +kernel
theorem d_Y_writeState_95 : decode b_Y_writeState 95 = .ok (.invokevirtual 139, 3) := by decide +kernel
theorem d_Y_writeState_98 : decode b_Y_writeState 98 = .ok (.iastore, 1) := by decide +kernel
theorem d_Y_writeState_99 : decode b_Y_writeState 99 = .ok (.iinc 4 1, 3) := by decide +kernel
theorem d_Y_writeState_102 : decode b_Y_writeState 102 = .ok (.goto (-50), 3) := by decide +kernel
theorem d_Y_writeState_105 : decode b_Y_writeState 105 = .ok (.return_, 1) := by decide +kernel
theorem d_Y_writeStates_0 : decode b_Y_writeStates 0 = .ok (.aload_n 1, 1) := by decide +kernel
theorem d_Y_writeStates_1 : decode b_Y_writeStates 1 = .ok (.iconst 0, 1) := by decide +kernel
theorem d_Y_writeStates_2 : decode b_Y_writeStates 2 = .ok (.putfield 138, 3) := by decide +kernel
theorem d_Y_writeStates_5 : decode b_Y_writeStates 5 = .ok (.iconst 1, 1) := by decide +kernel
theorem d_Y_writeStates_6 : decode b_Y_writeStates 6 = .ok (.istore_n 2, 1) := by decide +kernel
theorem d_Y_writeStates_7 : decode b_Y_writeStates 7 = .ok (.iload_n 2, 1) := by decide +kernel
theorem d_Y_writeStates_8 : decode b_Y_writeStates 8 = .ok (.aload_n 0, 1) := by decide +kernel
theorem d_Y_writeStates_9 : decode b_Y_writeStates 9 = .ok (.getfield 25, 3) := by decide +kernel
theorem d_Y_writeStates_12 : decode b_Y_writeStates 12 = .ok (.getfield 36, 3) := by decide +kernel
theorem d_Y_writeStates_15 : decode b_Y_writeStates 15 = .ok (.if_icmp .gt 16, 3) := by decide +kernel
theorem d_Y_writeStates_18 : decode b_Y_writeStates 18 = .ok (.aload_n 0, 1) := by decide +kernel
theorem d_Y_writeStates_19 : decode b_Y_writeStates 19 = .ok (.getfield 15, 3) := by decide +kernel
theorem d_Y_writeStates_22 : decode b_Y_writeStates 22 = .ok (.iload_n 2, 1) := by decide +kernel
theorem d_Y_writeStates_23 : decode b_Y_writeStates 23 = .ok (.iconst 0, 1) := by decide +kernel
theorem d_Y_writeStates_24 : decode b_Y_writeStates 24 = .ok (.iastore, 1) := by decide +kernel
theorem d_Y_writeStates_25 : decode b_Y_writeStates 25 = .ok (.iinc 2 1, 3) := by decide +kernel
theorem d_Y_writeStates_28 : decode b_Y_writeStates 28 = .ok (.goto (-21), 3) := by decide +kernel
theorem d_Y_writeStates_31 : decode b_Y_writeStates 31 = .ok (.aload_n 0, 1) := by decide +kernel
theorem d_Y_writeStates_32 : decode b_Y_writeStates 32 = .ok (.getfield 25, 3) := by decide +kernel
theorem d_Y_writeStates_35 : decode b_Y_writeStates 35 = .ok (.getfield 85, 3) := by decide +kernel
theorem d_Y_writeStates_38 : decode b_Y_writeStates 38 = .ok (.iconst 1, 1) := by decide +kernel
theorem d_Y_writeStates_39 : decode b_Y_writeStates 39 = .ok (.baload, 1) := by decide +kernel
theorem d_Y_writeStates_40 : decode b_Y_writeStates 40 = .ok (.ifCond .eq 10, 3) := by decide +kernel
theorem d_Y_writeStates_43 : decode b_Y_writeStates 43 = .ok (.aload_n 0, 1) := by decide +kernel
theorem d_Y_writeStates_44 : decode b_Y_writeStates 44 = .ok (.iconst 1, 1) := by decide +kernel
theorem d_Y_writeStates_45 : decode b_Y_writeStates 45 = .ok (.aload_n 1, 1) := by decide +kernel
theorem d_Y_writeStates_46 : decode b_Y_writeStates 46 = .ok (.invokevirtual 139, 3) := by decide +kernel
theorem d_Y_writeStates_49 : decode b_Y_writeStates 49 = .ok (.pop, 1) := by decide +kernel
theorem d_Y_writeStates_50 : decode b_Y_writeStates 50 = .ok (.iconst 1, 1) := by decide +kernel
theorem d_Y_writeStates_51 : decode b_Y_writeStates 51 = .ok (.istore_n 2, 1) := by decide +kernel
theorem d_Y_writeStates_52 : decode b_Y_writeStates 52 = .ok (.iload_n 2, 1) := by decide +kernel
theorem d_Y_writeStates_53 : decode b_Y_writeStates 53 = .ok (.aload_n 1, 1) := by decide +kernel
theorem d_Y_writeStates_54 : decode b_Y_writeStates 54 = .ok (.getfield 138, 3) := by decide +kernel
theorem d_Y_writeStates_57 : decode b_Y_writeStates 57 = .ok (.if_icmp .gt 22, 3) := by decide +kernel
theorem d_Y_writeStates_60 : decode b_Y_writeStates 60 = .ok (.iload_n 2, 1) := by decide +kernel
theorem d_Y_writeStates_61 : decode b_Y_writeStates 61 = .ok (.sipush 200, 3) := by decide +kernel
theorem d_Y_writeStates_64 : decode b_Y_writeStates 64 = .ok (.if_icmp .gt 15, 3) := by decide +kernel
theorem d_Y_writeStates_67 : decode b_Y_writeStates 67 = .ok (.aload_n 0, 1) := by decide +kernel
theorem d_Y_writeStates_68 : decode b_Y_writeStates 68 = .ok (.iload_n 2, 1) := by decide +kernel
theorem d_Y_writeStates_69 : decode b_Y_writeStates 69 = .ok (.aload_n 1, 1) := by decide +kernel
theorem d_Y_writeStates_70 : decode b_Y_writeStates 70 = .ok (.invokevirtual 143, 3) := by decide +kernel
theorem d_Y_writeStates_73 : decode b_Y_writeStates 73 = .ok (.iinc 2 1, 3) := by decide +kernel
theorem d_Y_writeStates_76 : decode b_Y_writeStates 76 = .ok (.goto (-24), 3) := by decide +kernel
theorem d_Y_writeStates_79 : decode b_Y_writeStates 79 = .ok (.return_, 1) := by decide +kernel
theorem d_Y_writeWord_0 : decode b_Y_writeWord 0 = .ok (.aload_n 0, 1) := by decide +kernel
theorem d_Y_writeWord_1 : decode b_Y_writeWord 1 = .ok (.invokevirtual 126, 3) := by decide +kernel
theorem d_Y_writeWord_4 : decode b_Y_writeWord 4 = .ok (.istore_n 2, 1) := by decide +kernel
theorem d_Y_writeWord_5 : decode b_Y_writeWord 5 = .ok (.iload_n 2, 1) := by decide +kernel
theorem d_Y_writeWord_6 : decode b_Y_writeWord 6 = .ok (.ifCond .ne 9, 3) := by decide +kernel
theorem d_Y_writeWord_9 : decode b_Y_writeWord 9 = .ok (.aload_n 1, 1) := by decide +kernel
theorem d_Y_writeWord_10 : decode b_Y_writeWord 10 = .ok (.iconst (-1), 1) := by decide +kernel
theorem d_Y_writeWord_11 : decode b_Y_writeWord 11 = .ok (.putfield 129, 3) := by decide +kernel
theorem d_Y_writeWord_14 : decode b_Y_writeWord 14 = .ok (.return_, 1) := by decide +kernel
theorem d_Y_writeWord_15 : decode b_Y_writeWord 15 = .ok (.iconst 0, 1) := by decide +kernel
theorem d_Y_writeWord_16 : decode b_Y_writeWord 16 = .ok (.istore_n 3, 1) := by decide +kernel
theorem d_Y_writeWord_17 : decode b_Y_writeWord 17 = .ok (.iload_n 2, 1) := by decide +kernel
theorem d_Y_writeWord_18 : decode b_Y_writeWord 18 = .ok (.iconst 1, 1) := by decide +kernel
theorem d_Y_writeWord_19 : decode b_Y_writeWord 19 = .ok (.if_icmp .le 47, 3) := by decide +kernel
theorem d_Y_writeWord_22 : decode b_Y_writeWord 22 = .ok (.iload_n 3, 1) := by decide +kernel
theorem d_Y_writeWord_23 : decode b_Y_writeWord 23 = .ok (.sipush 200, 3) := by decide +kernel
theorem d_Y_writeWord_26 : decode b_Y_writeWord 26 = .ok (.if_icmp .ge 40, 3) := by decide +kernel
theorem d_Y_writeWord_29 : decode b_Y_writeWord 29 = .ok (.aload_n 1, 1) := by decide +kernel
theorem d_Y_writeWord_30 : decode b_Y_writeWord 30 = .ok (.getfield 132, 3) := by decide +kernel
theorem d_Y_writeWord_33 : decode b_Y_writeWord 33 = .ok (.iload_n 3, 1) := by decide +kernel
theorem d_Y_writeWord_34 : decode b_Y_writeWord 34 = .ok (.aload_n 0, 1) := by decide +kernel
theorem d_Y_writeWord_35 : decode b_Y_writeWord 35 = .ok (.getfield 25, 3) := by decide +kernel
theorem d_Y_writeWord_38 : decode b_Y_writeWord 38 = .ok (.getfield 135, 3) := by decide +kernel
theorem d_Y_writeWord_41 : decode b_Y_writeWord 41 = .ok (.iload_n 2, 1) := by decide +kernel
theorem d_Y_writeWord_42 : decode b_Y_writeWord 42 = .ok (.iaload, 1) := by decide +kernel
theorem d_Y_writeWord_43 : decode b_Y_writeWord 43 = .ok (.bipush 12, 2) := by decide +kernel
theorem d_Y_writeWord_45 : decode b_Y_writeWord 45 = .ok (.irem, 1) := by decide +kernel
theorem d_Y_writeWord_46 : decode b_Y_writeWord 46 = .ok (.iastore, 1) := by decide +kernel
theorem d_Y_writeWord_47 : decode b_Y_writeWord 47 = .ok (.aload_n 0, 1) := by decide +kernel
theorem d_Y_writeWord_48 : decode b_Y_writeWord 48 = .ok (.getfield 25, 3) := by decide +kernel
theorem d_Y_writeWord_51 : decode b_Y_writeWord 51 = .ok (.getfield 135, 3) := by decide +kernel
theorem d_Y_writeWord_54 : decode b_Y_writeWord 54 = .ok (.iload_n 2, 1) := by decide +kernel
theorem d_Y_writeWord_55 : decode b_Y_writeWord 55 = .ok (.iaload, 1) := by decide +kernel
theorem d_Y_writeWord_56 : decode b_Y_writeWord 56 = .ok (.bipush 12, 2) := by decide +kernel
theorem d_Y_writeWord_58 : decode b_Y_writeWord 58 = .ok (.idiv, 1) := by decide +kernel
theorem d_Y_writeWord_59 : decode b_Y_writeWord 59 = .ok (.istore_n 2, 1) := by decide +kernel
theorem d_Y_writeWord_60 : decode b_Y_writeWord 60 = .ok (.iinc 3 1, 3) := by decide +kernel
theorem d_Y_writeWord_63 : decode b_Y_writeWord 63 = .ok (.goto (-46), 3) := by decide +kernel
theorem d_Y_writeWord_66 : decode b_Y_writeWord 66 = .ok (.aload_n 1, 1) := by decide +kernel
theorem d_Y_writeWord_67 : decode b_Y_writeWord 67 = .ok (.iload_n 3, 1) := by decide +kernel
theorem d_Y_writeWord_68 : decode b_Y_writeWord 68 = .ok (.putfield 129, 3) := by decide +kernel
theorem d_Y_writeWord_71 : decode b_Y_writeWord 71 = .ok (.return_, 1) := by decide +kernel
end
section
theorem d_R_act_0 : decode b_R_act 0 = .ok (.aload_n 0, 1) := by decide +kernel
theorem d_R_act_1 : decode b_R_act 1 = .ok (.aload_n 0, 1) := by decide +kernel
theorem d_R_act_2 : decode b_R_act 2 = .ok (.getfield 91, 3) := by decide +kernel
theorem d_R_act_5 : decode b_R_act 5 = .ok (.ifCond .ne 7, 3) := by decide +kernel
theorem d_R_act_8 : decode b_R_act 8 = .ok (.iconst 1, 1) := by decide +kernel
theorem d_R_act_9 : decode b_R_act 9 = .ok (.goto 4, 3) := by decide +kernel
theorem d_R_act_12 : decode b_R_act 12 = .ok (.iconst 0, 1) := by decide +kernel
theorem d_R_act_13 : decode b_R_act 13 = .ok (.aload_n 0, 1) := by decide +kernel
theorem d_R_act_14 : decode b_R_act 14 = .ok (.getfield 91, 3) := by decide +kernel
theorem d_R_act_17 : decode b_R_act 17 = .ok (.ifCond .le 16, 3) := by decide +kernel
theorem d_R_act_20 : decode b_R_act 20 = .ok (.iload_n 1, 1) := by decide +kernel
theorem d_R_act_21 : decode b_R_act 21 = .ok (.bipush 12, 2) := by decide +kernel
theorem d_R_act_23 : decode b_R_act 23 = .ok (.invokestatic 94, 3) := by decide +kernel
theorem d_R_act_26 : decode b_R_act 26 = .ok (.ifCond .eq 7, 3) := by decide +kernel
theorem d_R_act_29 : decode b_R_act 29 = .ok (.iconst 1, 1) := by decide +kernel
theorem d_R_act_30 : decode b_R_act 30 = .ok (.goto 4, 3) := by decide +kernel
theorem d_R_act_33 : decode b_R_act 33 = .ok (.iconst 0, 1) := by decide +kernel
theorem d_R_act_34 : decode b_R_act 34 = .ok (.invokevirtual 101, 3) := by decide +kernel
theorem d_R_act_37 : decode b_R_act 37 = .ok (.ifCond .eq 5, 3) := by decide +kernel
theorem d_R_act_40 : decode b_R_act 40 = .ok (.iconst 0, 1) := by decide +kernel
theorem d_R_act_41 : decode b_R_act 41 = .ok (.ireturn, 1) := by decide +kernel
theorem d_R_act_42 : decode b_R_act 42 = .ok (.aload_n 0, 1) := by decide +kernel
theorem d_R_act_43 : decode b_R_act 43 = .ok (.getfield 44, 3) := by decide +kernel
theorem d_R_act_46 : decode b_R_act 46 = .ok (.bipush 12, 2) := by decide +kernel
theorem d_R_act_48 : decode b_R_act 48 = .ok (.aload_n 0, 1) := by decide +kernel
theorem d_R_act_49 : decode b_R_act 49 = .ok (.getfield 151, 3) := by decide +kernel
theorem d_R_act_52 : decode b_R_act 52 = .ok (.imul, 1) := by decide +kernel
theorem d_R_act_53 : decode b_R_act 53 = .ok (.iload_n 1, 1) := by decide +kernel
theorem d_R_act_54 : decode b_R_act 54 = .ok (.iadd, 1) := by decide +kernel
theorem d_R_act_55 : decode b_R_act 55 = .ok (.baload, 1) := by decide +kernel
theorem d_R_act_56 : decode b_R_act 56 = .ok (.ifCond .ne 5, 3) := by decide +kernel
theorem d_R_act_59 : decode b_R_act 59 = .ok (.iconst 0, 1) := by decide +kernel
theorem d_R_act_60 : decode b_R_act 60 = .ok (.ireturn, 1) := by decide +kernel
theorem d_R_act_61 : decode b_R_act 61 = .ok (.aload_n 0, 1) := by decide +kernel
theorem d_R_act_62 : decode b_R_act 62 = .ok (.iconst 0, 1) := by decide +kernel
theorem d_R_act_63 : decode b_R_act 63 = .ok (.aload_n 0, 1) := by decide +kernel
theorem d_R_act_64 : decode b_R_act 64 = .ok (.getfield 151, 3) := by decide +kernel
theorem d_R_act_67 : decode b_R_act 67 = .ok (.iload_n 1, 1) := by decide +kernel
theorem d_R_act_68 : decode b_R_act 68 = .ok (.invokevirtual 135, 3) := by decide +kernel
theorem d_R_act_71 : decode b_R_act 71 = .ok (.ifCond .ge 5, 3) := by decide +kernel
theorem d_R_act_74 : decode b_R_act 74 = .ok (.iconst 1, 1) := by decide +kernel
theorem d_R_act_75 : decode b_R_act 75 = .ok (.ireturn, 1) := by decide +kernel
theorem d_R_act_76 : decode b_R_act 76 = .ok (.aload_n 0, 1) := by decide +kernel
theorem d_R_act_77 : decode b_R_act 77 = .ok (.aload_n 0, 1) := by decide +kernel
theorem d_R_act_78 : decode b_R_act 78 = .ok (.iconst 0, 1) := by decide +kernel
theorem d_R_act_79 : decode b_R_act 79 = .ok (.aload_n 0, 1) := by decide +kernel
theorem d_R_act_80 : decode b_R_act 80 = .ok (.getfield 151, 3) := by decide +kernel
theorem d_R_act_83 : decode b_R_act 83 = .ok (.iload_n 1, 1) := by decide +kernel
theorem d_R_act_84 : decode b_R_act 84 = .ok (.invokevirtual 135, 3) := by decide +kernel
theorem d_R_act_87 : decode b_R_act 87 = .ok (.putfield 151, 3) := by decide +kernel
theorem d_R_act_90 : decode b_R_act 90 = .ok (.iconst 2, 1) := by decide +kernel
theorem d_R_act_91 : decode b_R_act 91 = .ok (.ireturn, 1) := by decide +kernel
theorem d_R_after_0 : decode b_R_after 0 = .ok (.iconst 0, 1) := by decide +kernel
theorem d_R_after_1 : decode b_R_after 1 = .ok (.istore 4, 2) := by decide +kernel
theorem d_R_after_3 : decode b_R_after 3 = .ok (.iconst 1, 1) := by decide +kernel
theorem d_R_after_4 : decode b_R_after 4 = .ok (.istore 5, 2) := by decide +kernel
theorem d_R_after_6 : decode b_R_after 6 = .ok (.iconst 1, 1) := by decide +kernel
theorem d_R_after_7 : decode b_R_after 7 = .ok (.istore 6, 2) := by decide +kernel
theorem d_R_after_9 : decode b_R_after 9 = .ok (.iconst 0, 1) := by decide +kernel
theorem d_R_after_10 : decode b_R_after 10 = .ok (.istore 7, 2) := by decide +kernel
theorem d_R_after_12 : decode b_R_after 12 = .ok (.iconst 1, 1) := by decide +kernel
theorem d_R_after_13 : decode b_R_after 13 = .ok (.istore 8, 2) := by decide +kernel
theorem d_R_after_15 : decode b_R_after 15 = .ok (.iconst 0, 1) := by decide +kernel
theorem d_R_after_16 : decode b_R_after 16 = .ok (.istore 9, 2) := by decide +kernel
theorem d_R_after_18 : decode b_R_after 18 = .ok (.iload 9, 2) := by decide +kernel
theorem d_R_after_20 : decode b_R_after 20 = .ok (.aload_n 0, 1) := by decide +kernel
theorem d_R_after_21 : decode b_R_after 21 = .ok (.getfield 98, 3) := by decide +kernel
theorem d_R_after_24 : decode b_R_after 24 = .ok (.if_icmp .ge 154, 3) := by decide +kernel
theorem d_R_after_27 : decode b_R_after 27 = .ok (.iload_n 1, 1) := by decide +kernel
theorem d_R_after_28 : decode b_R_after 28 = .ok (.iload 9, 2) := by decide +kernel
theorem d_R_after_30 : decode b_R_after 30 = .ok (.invokestatic 114, 3) := by decide +kernel
theorem d_R_after_33 : decode b_R_after 33 = .ok (.istore 10, 2) := by decide +kernel
theorem d_R_after_35 : decode b_R_after 35 = .ok (.aload_n 0, 1) := by decide +kernel
theorem d_R_after_36 : decode b_R_after 36 = .ok (.iload 9, 2) := by decide +kernel
theorem d_R_after_38 : decode b_R_after 38 = .ok (.iload_n 3, 1) := by decide +kernel
theorem d_R_after_39 : decode b_R_after 39 = .ok (.invokevirtual 111, 3) := by decide +kernel
theorem d_R_after_42 : decode b_R_after 42 = .ok (.ifCond .eq 113, 3) := by decide +kernel
theorem d_R_after_45 : decode b_R_after 45 = .ok (.aload_n 0, 1) := by decide +kernel
theorem d_R_after_46 : decode b_R_after 46 = .ok (.iload 9, 2) := by decide +kernel
theorem d_R_after_48 : decode b_R_after 48 = .ok (.iload_n 2, 1) := by decide +kernel
theorem d_R_after_49 : decode b_R_after 49 = .ok (.invokevirtual 118, 3) := by decide +kernel
theorem d_R_after_52 : decode b_R_after 52 = .ok (.ifCond .eq 103, 3) := by decide +kernel
theorem d_R_after_55 : decode b_R_after 55 = .ok (.iload 4, 2) := by decide +kernel
theorem d_R_after_57 : decode b_R_after 57 = .ok (.ifCond .ne 13, 3) := by decide +kernel
theorem d_R_after_60 : decode b_R_after 60 = .ok (.aload_n 0, 1) := by decide +kernel
theorem d_R_after_61 : decode b_R_after 61 = .ok (.getfield 13, 3) := by decide +kernel
theorem d_R_after_64 : decode b_R_after 64 = .ok (.iload 9, 2) := by decide +kernel
theorem d_R_after_66 : decode b_R_after 66 = .ok (.baload, 1) := by decide +kernel
theorem d_R_after_67 : decode b_R_after 67 = .ok (.ifCond .eq 7, 3) := by decide +kernel
theorem d_R_after_70 : decode b_R_after 70 = .ok (.iconst 1, 1) := by decide +kernel
theorem d_R_after_71 : decode b_R_after 71 = .ok (.goto 4, 3) := by decide +kernel
theorem d_R_after_74 : decode b_R_after 74 = .ok (.iconst 0, 1) := by decide +kernel
theorem d_R_after_75 : decode b_R_after 75 = .ok (.istore 4, 2) := by decide +kernel
theorem d_R_after_77 : decode b_R_after 77 = .ok (.aload_n 0, 1) := by decide +kernel
theorem d_R_after_78 : decode b_R_after 78 = .ok (.getfield 26, 3) := by decide +kernel
theorem d_R_after_81 : decode b_R_after 81 = .ok (.bipush 72, 2) := by decide +kernel
theorem d_R_after_83 : decode b_R_after 83 = .ok (.iload 9, 2) := by decide +kernel
theorem d_R_after_85 : decode b_R_after 85 = .ok (.imul, 1) := by decide +kernel
theorem d_R_after_86 : decode b_R_after 86 = .ok (.bipush 12, 2) := by decide +kernel
theorem d_R_after_88 : decode b_R_after 88 = .ok (.iload 10, 2) := by decide +kernel
theorem d_R_after_90 : decode b_R_after 90 = .ok (.imul, 1) := by decide +kernel
theorem d_R_after_91 : decode b_R_after 91 = .ok (.iadd, 1) := by decide +kernel
theorem d_R_after_92 : decode b_R_after 92 = .ok (.iload_n 2, 1) := by decide +kernel
theorem d_R_after_93 : decode b_R_after 93 = .ok (.iadd, 1) := by decide +kernel
theorem d_R_after_94 : decode b_R_after 94 = .ok (.iaload, 1) := by decide +kernel
theorem d_R_after_95 : decode b_R_after 95 = .ok (.istore 11, 2) := by decide +kernel
theorem d_R_after_97 : decode b_R_after 97 = .ok (.iload 5, 2) := by decide +kernel
theorem d_R_after_99 : decode b_R_after 99 = .ok (.ifCond .eq 22, 3) := by decide +kernel
theorem d_R_after_102 : decode b_R_after 102 = .ok (.iload 11, 2) := by decide +kernel
theorem d_R_after_104 : decode b_R_after 104 = .ok (.ifCond .ge 13, 3) := by decide +kernel
theorem d_R_after_107 : decode b_R_after 107 = .ok (.aload_n 0, 1) := by decide +kernel
theorem d_R_after_108 : decode b_R_after 108 = .ok (.getfield 13, 3) := by decide +kernel
theorem d_R_after_111 : decode b_R_after 111 = .ok (.iload 9, 2) := by decide +kernel
theorem d_R_after_113 : decode b_R_after 113 = .ok (.baload, 1) := by decide +kernel
theorem d_R_after_114 : decode b_R_after 114 = .ok (.ifCond .ne 7, 3) := by decide +kernel
theorem d_R_after_117 : decode b_R_after 117 = .ok (.iconst 1, 1) := by decide +kernel
theorem d_R_after_118 : decode b_R_after 118 = .ok (.goto 4, 3) := by decide +kernel
theorem d_R_after_121 : decode b_R_after 121 = .ok (.iconst 0, 1) := by decide +kernel
theorem d_R_after_122 : decode b_R_after 122 = .ok (.istore 5, 2) := by decide +kernel
theorem d_R_after_124 : decode b_R_after 124 = .ok (.iload 6, 2) := by decide +kernel
theorem d_R_after_126 : decode b_R_after 126 = .ok (.ifCond .eq 22, 3) := by decide +kernel
theorem d_R_after_129 : decode b_R_after 129 = .ok (.iload 11, 2) := by decide +kernel
theorem d_R_after_131 : decode b_R_after 131 = .ok (.ifCond .ge 13, 3) := by decide +kernel
theorem d_R_after_134 : decode b_R_after 134 = .ok (.aload_n 0, 1) := by decide +kernel
theorem d_R_after_135 : decode b_R_after 135 = .ok (.getfield 13, 3) := by decide +kernel
theorem d_R_after_138 : decode b_R_after 138 = .ok (.iload 9, 2) := by decide +kernel
theorem d_R_after_140 : decode b_R_after 140 = .ok (.baload, 1) := by decide +kernel
theorem d_R_after_141 : decode b_R_after 141 = .ok (.ifCond .eq 7, 3) := by decide +kernel
theorem d_R_after_144 : decode b_R_after 144 = .ok (.iconst 1, 1) := by decide +kernel
theorem d_R_after_145 : decode b_R_after 145 = .ok (.goto 4, 3) := by decide +kernel
theorem d_R_after_148 : decode b_R_after 148 = .ok (.iconst 0, 1) := by decide +kernel
theorem d_R_after_149 : decode b_R_after 149 = .ok (.istore 6, 2) := by decide +kernel
theorem d_R_after_151 : decode b_R_after 151 = .ok (.iload 11, 2) := by decide +kernel
theorem d_R_after_153 : decode b_R_after 153 = .ok (.istore 10, 2) := by decide +kernel
theorem d_R_after_155 : decode b_R_after 155 = .ok (.iload 7, 2) := by decide +kernel
theorem d_R_after_157 : decode b_R_after 157 = .ok (.iload 8, 2) := by decide +kernel
theorem d_R_after_159 : decode b_R_after 159 = .ok (.iload 10, 2) := by decide +kernel
theorem d_R_after_161 : decode b_R_after 161 = .ok (.imul, 1) := by decide +kernel
theorem d_R_after_162 : decode b_R_after 162 = .ok (.iadd, 1) := by decide +kernel
theorem d_R_after_163 : decode b_R_after 163 = .ok (.istore 7, 2) := by decide +kernel
theorem d_R_after_165 : decode b_R_after 165 = .ok (.bipush 6, 2) := by decide +kernel
theorem d_R_after_167 : decode b_R_after 167 = .ok (.iload 8, 2) := by decide +kernel
theorem d_R_after_169 : decode b_R_after 169 = .ok (.imul, 1) := by decide +kernel
theorem d_R_after_170 : decode b_R_after 170 = .ok (.istore 8, 2) := by decide +kernel
theorem d_R_after_172 : decode b_R_after 172 = .ok (.iinc 9 1, 3) := by decide +kernel
theorem d_R_after_175 : decode b_R_after 175 = .ok (.goto (-157), 3) := by decide +kernel
theorem d_R_after_178 : decode b_R_after 178 = .ok (.iload 4, 2) := by decide +kernel
theorem d_R_after_180 : decode b_R_after 180 = .ok (.ifCond .eq 8, 3) := by decide +kernel
theorem d_R_after_183 : decode b_R_after 183 = .ok (.iload 5, 2) := by decide +kernel
theorem d_R_after_185 : decode b_R_after 185 = .ok (.ifCond .ne 8, 3) := by decide +kernel
theorem d_R_after_188 : decode b_R_after 188 = .ok (.bipush (-2), 2) := by decide +kernel
theorem d_R_after_190 : decode b_R_after 190 = .ok (.goto 14, 3) := by decide +kernel
theorem d_R_after_193 : decode b_R_after 193 = .ok (.iload 6, 2) := by decide +kernel
theorem d_R_after_195 : decode b_R_after 195 = .ok (.ifCond .eq 8, 3) := by decide +kernel
theorem d_R_after_198 : decode b_R_after 198 = .ok (.iload 7, 2) := by decide +kernel
theorem d_R_after_200 : decode b_R_after 200 = .ok (.goto 4, 3) := by decide +kernel
theorem d_R_after_203 : decode b_R_after 203 = .ok (.iconst (-1), 1) := by decide +kernel
theorem d_R_after_204 : decode b_R_after 204 = .ok (.ireturn, 1) := by decide +kernel
theorem d_R_allowed_0 : decode b_R_allowed 0 = .ok (.aload_n 0, 1) := by decide +kernel
theorem d_R_allowed_1 : decode b_R_allowed 1 = .ok (.aload_n 0, 1) := by decide +kernel
theorem d_R_allowed_2 : decode b_R_allowed 2 = .ok (.getfield 91, 3) := by decide +kernel
theorem d_R_allowed_5 : decode b_R_allowed 5 = .ok (.ifCond .ne 7, 3) := by decide +kernel
theorem d_R_allowed_8 : decode b_R_allowed 8 = .ok (.iconst 1, 1) := by decide +kernel
theorem d_R_allowed_9 : decode b_R_allowed 9 = .ok (.goto 4, 3) := by decide +kernel
theorem d_R_allowed_12 : decode b_R_allowed 12 = .ok (.iconst 0, 1) := by decide +kernel
theorem d_R_allowed_13 : decode b_R_allowed 13 = .ok (.iconst 0, 1) := by decide +kernel
theorem d_R_allowed_14 : decode b_R_allowed 14 = .ok (.invokevirtual 101, 3) := by decide +kernel
theorem d_R_allowed_17 : decode b_R_allowed 17 = .ok (.ifCond .eq 5, 3) := by decide +kernel
theorem d_R_allowed_20 : decode b_R_allowed 20 = .ok (.iconst 0, 1) := by decide +kernel
theorem d_R_allowed_21 : decode b_R_allowed 21 = .ok (.ireturn, 1) := by decide +kernel
theorem d_R_allowed_22 : decode b_R_allowed 22 = .ok (.iconst 0, 1) := by decide +kernel
theorem d_R_allowed_23 : decode b_R_allowed 23 = .ok (.istore_n 1, 1) := by decide +kernel
theorem d_R_allowed_24 : decode b_R_allowed 24 = .ok (.iconst 0, 1) := by decide +kernel
theorem d_R_allowed_25 : decode b_R_allowed 25 = .ok (.istore_n 2, 1) := by decide +kernel
theorem d_R_allowed_26 : decode b_R_allowed 26 = .ok (.iload_n 2, 1) := by decide +kernel
theorem d_R_allowed_27 : decode b_R_allowed 27 = .ok (.bipush 12, 2) := by decide +kernel
theorem d_R_allowed_29 : decode b_R_allowed 29 = .ok (.if_icmp .ge 32, 3) := by decide +kernel
theorem d_R_allowed_32 : decode b_R_allowed 32 = .ok (.aload_n 0, 1) := by decide +kernel
theorem d_R_allowed_33 : decode b_R_allowed 33 = .ok (.iconst 0, 1) := by decide +kernel
theorem d_R_allowed_34 : decode b_R_allowed 34 = .ok (.aload_n 0, 1) := by decide +kernel
theorem d_R_allowed_35 : decode b_R_allowed 35 = .ok (.getfield 151, 3) := by decide +kernel
theorem d_R_allowed_38 : decode b_R_allowed 38 = .ok (.iload_n 2, 1) := by decide +kernel
theorem d_R_allowed_39 : decode b_R_allowed 39 = .ok (.invokevirtual 135, 3) := by decide +kernel
theorem d_R_allowed_42 : decode b_R_allowed 42 = .ok (.ifCond .lt 11, 3) := by decide +kernel
theorem d_R_allowed_45 : decode b_R_allowed 45 = .ok (.iload_n 1, 1) := by decide +kernel
theorem d_R_allowed_46 : decode b_R_allowed 46 = .ok (.iconst 1, 1) := by decide +kernel
theorem d_R_allowed_47 : decode b_R_allowed 47 = .ok (.iload_n 2, 1) := by decide +kernel
theorem d_R_allowed_48 : decode b_R_allowed 48 = .ok (.ishl, 1) := by decide +kernel
theorem d_R_allowed_49 : decode b_R_allowed 49 = .ok (.iadd, 1) := by decide +kernel
theorem d_R_allowed_50 : decode b_R_allowed 50 = .ok (.goto 4, 3) := by decide +kernel
theorem d_R_allowed_53 : decode b_R_allowed 53 = .ok (.iload_n 1, 1) := by decide +kernel
theorem d_R_allowed_54 : decode b_R_allowed 54 = .ok (.istore_n 1, 1) := by decide +kernel
theorem d_R_allowed_55 : decode b_R_allowed 55 = .ok (.iinc 2 1, 3) := by decide +kernel
theorem d_R_allowed_58 : decode b_R_allowed 58 = .ok (.goto (-32), 3) := by decide +kernel
theorem d_R_allowed_61 : decode b_R_allowed 61 = .ok (.iload_n 1, 1) := by decide +kernel
theorem d_R_allowed_62 : decode b_R_allowed 62 = .ok (.ireturn, 1) := by decide +kernel
theorem d_R_automaton_0 : decode b_R_automaton 0 = .ok (.iload_n 1, 1) := by decide +kernel
theorem d_R_automaton_1 : decode b_R_automaton 1 = .ok (.iconst 1, 1) := by decide +kernel
theorem d_R_automaton_2 : decode b_R_automaton 2 = .ok (.if_icmp .lt 17, 3) := by decide +kernel
theorem d_R_automaton_5 : decode b_R_automaton 5 = .ok (.iload_n 1, 1) := by decide +kernel
theorem d_R_automaton_6 : decode b_R_automaton 6 = .ok (.bipush 6, 2) := by decide +kernel
theorem d_R_automaton_8 : decode b_R_automaton 8 = .ok (.if_icmp .gt 11, 3) := by decide +kernel
theorem d_R_automaton_11 : decode b_R_automaton 11 = .ok (.iload_n 2, 1) := by decide +kernel
theorem d_R_automaton_12 : decode b_R_automaton 12 = .ok (.iconst 2, 1) := by decide +kernel
theorem d_R_automaton_13 : decode b_R_automaton 13 = .ok (.invokestatic 94, 3) := by decide +kernel
theorem d_R_automaton_16 : decode b_R_automaton 16 = .ok (.ifCond .eq 7, 3) := by decide +kernel
theorem d_R_automaton_19 : decode b_R_automaton 19 = .ok (.iconst 1, 1) := by decide +kernel
theorem d_R_automaton_20 : decode b_R_automaton 20 = .ok (.goto 4, 3) := by decide +kernel
theorem d_R_automaton_23 : decode b_R_automaton 23 = .ok (.iconst 0, 1) := by decide +kernel
theorem d_R_automaton_24 : decode b_R_automaton 24 = .ok (.istore_n 3, 1) := by decide +kernel
theorem d_R_automaton_25 : decode b_R_automaton 25 = .ok (.aload_n 0, 1) := by decide +kernel
theorem d_R_automaton_26 : decode b_R_automaton 26 = .ok (.iload_n 3, 1) := by decide +kernel
theorem d_R_automaton_27 : decode b_R_automaton 27 = .ok (.iload_n 3, 1) := by decide +kernel
theorem d_R_automaton_28 : decode b_R_automaton 28 = .ok (.ifCond .ne 15, 3) := by decide +kernel
theorem d_R_automaton_31 : decode b_R_automaton 31 = .ok (.aload_n 0, 1) := by decide +kernel
theorem d_R_automaton_32 : decode b_R_automaton 32 = .ok (.getfield 98, 3) := by decide +kernel
theorem d_R_automaton_35 : decode b_R_automaton 35 = .ok (.iconst 4, 1) := by decide +kernel
theorem d_R_automaton_36 : decode b_R_automaton 36 = .ok (.if_icmp .ne 7, 3) := by decide +kernel
theorem d_R_automaton_39 : decode b_R_automaton 39 = .ok (.iconst 1, 1) := by decide +kernel
theorem d_R_automaton_40 : decode b_R_automaton 40 = .ok (.goto 4, 3) := by decide +kernel
theorem d_R_automaton_43 : decode b_R_automaton 43 = .ok (.iconst 0, 1) := by decide +kernel
theorem d_R_automaton_44 : decode b_R_automaton 44 = .ok (.invokevirtual 101, 3) := by decide +kernel
theorem d_R_automaton_47 : decode b_R_automaton 47 = .ok (.ifCond .eq 5, 3) := by decide +kernel
theorem d_R_automaton_50 : decode b_R_automaton 50 = .ok (.iconst 0, 1) := by decide +kernel
theorem d_R_automaton_51 : decode b_R_automaton 51 = .ok (.ireturn, 1) := by decide +kernel
theorem d_R_automaton_52 : decode b_R_automaton 52 = .ok (.aload_n 0, 1) := by decide +kernel
theorem d_R_automaton_53 : decode b_R_automaton 53 = .ok (.invokevirtual 105, 3) := by decide +kernel
theorem d_R_automaton_56 : decode b_R_automaton 56 = .ok (.aload_n 0, 1) := by decide +kernel
theorem d_R_automaton_57 : decode b_R_automaton 57 = .ok (.getfield 7, 3) := by decide +kernel
theorem d_R_automaton_60 : decode b_R_automaton 60 = .ok (.aload_n 0, 1) := by decide +kernel
theorem d_R_automaton_61 : decode b_R_automaton 61 = .ok (.getfield 98, 3) := by decide +kernel
theorem d_R_automaton_64 : decode b_R_automaton 64 = .ok (.iload_n 1, 1) := by decide +kernel
theorem d_R_automaton_65 : decode b_R_automaton 65 = .ok (.iastore, 1) := by decide +kernel
theorem d_R_automaton_66 : decode b_R_automaton 66 = .ok (.aload_n 0, 1) := by decide +kernel
theorem d_R_automaton_67 : decode b_R_automaton 67 = .ok (.getfield 13, 3) := by decide +kernel
theorem d_R_automaton_70 : decode b_R_automaton 70 = .ok (.aload_n 0, 1) := by decide +kernel
theorem d_R_automaton_71 : decode b_R_automaton 71 = .ok (.getfield 98, 3) := by decide +kernel
theorem d_R_automaton_74 : decode b_R_automaton 74 = .ok (.iload_n 2, 1) := by decide +kernel
theorem d_R_automaton_75 : decode b_R_automaton 75 = .ok (.ifCond .ne 7, 3) := by decide +kernel
theorem d_R_automaton_78 : decode b_R_automaton 78 = .ok (.iconst 1, 1) := by decide +kernel
theorem d_R_automaton_79 : decode b_R_automaton 79 = .ok (.goto 4, 3) := by decide +kernel
theorem d_R_automaton_82 : decode b_R_automaton 82 = .ok (.iconst 0, 1) := by decide +kernel
theorem d_R_automaton_83 : decode b_R_automaton 83 = .ok (.bastore, 1) := by decide +kernel
theorem d_R_automaton_84 : decode b_R_automaton 84 = .ok (.aload_n 0, 1) := by decide +kernel
theorem d_R_automaton_85 : decode b_R_automaton 85 = .ok (.getfield 17, 3) := by decide +kernel
theorem d_R_automaton_88 : decode b_R_automaton 88 = .ok (.aload_n 0, 1) := by decide +kernel
theorem d_R_automaton_89 : decode b_R_automaton 89 = .ok (.getfield 98, 3) := by decide +kernel
theorem d_R_automaton_92 : decode b_R_automaton 92 = .ok (.iconst (-1), 1) := by decide +kernel
theorem d_R_automaton_93 : decode b_R_automaton 93 = .ok (.iastore, 1) := by decide +kernel
theorem d_R_automaton_94 : decode b_R_automaton 94 = .ok (.iconst 0, 1) := by decide +kernel
theorem d_R_automaton_95 : decode b_R_automaton 95 = .ok (.istore 4, 2) := by decide +kernel
theorem d_R_automaton_97 : decode b_R_automaton 97 = .ok (.iload 4, 2) := by decide +kernel
theorem d_R_automaton_99 : decode b_R_automaton 99 = .ok (.bipush 6, 2) := by decide +kernel
theorem d_R_automaton_101 : decode b_R_automaton 101 = .ok (.if_icmp .ge 41, 3) := by decide +kernel
theorem d_R_automaton_104 : decode b_R_automaton 104 = .ok (.aload_n 0, 1) := by decide +kernel
theorem d_R_automaton_105 : decode b_R_automaton 105 = .ok (.getfield 20, 3) := by decide +kernel
theorem d_R_automaton_108 : decode b_R_automaton 108 = .ok (.bipush 6, 2) := by decide +kernel
theorem d_R_automaton_110 : decode b_R_automaton 110 = .ok (.aload_n 0, 1) := by decide +kernel
theorem d_R_automaton_111 : decode b_R_automaton 111 = .ok (.getfield 98, 3) := by decide +kernel
theorem d_R_automaton_114 : decode b_R_automaton 114 = .ok (.imul, 1) := by decide +kernel
theorem d_R_automaton_115 : decode b_R_automaton 115 = .ok (.iload 4, 2) := by decide +kernel
theorem d_R_automaton_117 : decode b_R_automaton 117 = .ok (.iadd, 1) := by decide +kernel
theorem d_R_automaton_118 : decode b_R_automaton 118 = .ok (.iconst 0, 1) := by decide +kernel
theorem d_R_automaton_119 : decode b_R_automaton 119 = .ok (.bastore, 1) := by decide +kernel
theorem d_R_automaton_120 : decode b_R_automaton 120 = .ok (.aload_n 0, 1) := by decide +kernel
theorem d_R_automaton_121 : decode b_R_automaton 121 = .ok (.getfield 23, 3) := by decide +kernel
theorem d_R_automaton_124 : decode b_R_automaton 124 = .ok (.bipush 6, 2) := by decide +kernel
theorem d_R_automaton_126 : decode b_R_automaton 126 = .ok (.aload_n 0, 1) := by decide +kernel
theorem d_R_automaton_127 : decode b_R_automaton 127 = .ok (.getfield 98, 3) := by decide +kernel
theorem d_R_automaton_130 : decode b_R_automaton 130 = .ok (.imul, 1) := by decide +kernel
theorem d_R_automaton_131 : decode b_R_automaton 131 = .ok (.iload 4, 2) := by decide +kernel
theorem d_R_automaton_133 : decode b_R_automaton 133 = .ok (.iadd, 1) := by decide +kernel
theorem d_R_automaton_134 : decode b_R_automaton 134 = .ok (.iconst 0, 1) := by decide +kernel
theorem d_R_automaton_135 : decode b_R_automaton 135 = .ok (.bastore, 1) := by decide +kernel
theorem d_R_automaton_136 : decode b_R_automaton 136 = .ok (.iinc 4 1, 3) := by decide +kernel
theorem d_R_automaton_139 : decode b_R_automaton 139 = .ok (.goto (-42), 3) := by decide +kernel
theorem d_R_automaton_142 : decode b_R_automaton 142 = .ok (.iconst 0, 1) := by decide +kernel
theorem d_R_automaton_143 : decode b_R_automaton 143 = .ok (.istore 4, 2) := by decide +kernel
theorem d_R_automaton_145 : decode b_R_automaton 145 = .ok (.iload 4, 2) := by decide +kernel
theorem d_R_automaton_147 : decode b_R_automaton 147 = .ok (.bipush 72, 2) := by decide +kernel
theorem d_R_automaton_149 : decode b_R_automaton 149 = .ok (.if_icmp .ge 25, 3) := by decide +kernel
theorem d_R_automaton_152 : decode b_R_automaton 152 = .ok (.aload_n 0, 1) := by decide +kernel
theorem d_R_automaton_153 : decode b_R_automaton 153 = .ok (.getfield 26, 3) := by decide +kernel
theorem d_R_automaton_156 : decode b_R_automaton 156 = .ok (.bipush 72, 2) := by decide +kernel
theorem d_R_automaton_158 : decode b_R_automaton 158 = .ok (.aload_n 0, 1) := by decide +kernel
theorem d_R_automaton_159 : decode b_R_automaton 159 = .ok (.getfield 98, 3) := by decide +kernel
theorem d_R_automaton_162 : decode b_R_automaton 162 = .ok (.imul, 1) := by decide +kernel
theorem d_R_automaton_163 : decode b_R_automaton 163 = .ok (.iload 4, 2) := by decide +kernel
theorem d_R_automaton_165 : decode b_R_automaton 165 = .ok (.iadd, 1) := by decide +kernel
theorem d_R_automaton_166 : decode b_R_automaton 166 = .ok (.iconst (-1), 1) := by decide +kernel
theorem d_R_automaton_167 : decode b_R_automaton 167 = .ok (.iastore, 1) := by decide +kernel
theorem d_R_automaton_168 : decode b_R_automaton 168 = .ok (.iinc 4 1, 3) := by decide +kernel
theorem d_R_automaton_171 : decode b_R_automaton 171 = .ok (.goto (-26), 3) := by decide +kernel
theorem d_R_automaton_174 : decode b_R_automaton 174 = .ok (.aload_n 0, 1) := by decide +kernel
theorem d_R_automaton_175 : decode b_R_automaton 175 = .ok (.dup, 1) := by decide +kernel
theorem d_R_automaton_176 : decode b_R_automaton 176 = .ok (.getfield 98, 3) := by decide +kernel
theorem d_R_automaton_179 : decode b_R_automaton 179 = .ok (.iconst 1, 1) := by decide +kernel
theorem d_R_automaton_180 : decode b_R_automaton 180 = .ok (.iadd, 1) := by decide +kernel
theorem d_R_automaton_181 : decode b_R_automaton 181 = .ok (.putfield 98, 3) := by decide +kernel
theorem d_R_automaton_184 : decode b_R_automaton 184 = .ok (.aload_n 0, 1) := by decide +kernel
theorem d_R_automaton_185 : decode b_R_automaton 185 = .ok (.getfield 98, 3) := by decide +kernel
theorem d_R_automaton_188 : decode b_R_automaton 188 = .ok (.iconst 1, 1) := by decide +kernel
theorem d_R_automaton_189 : decode b_R_automaton 189 = .ok (.isub, 1) := by decide +kernel
theorem d_R_automaton_190 : decode b_R_automaton 190 = .ok (.ireturn, 1) := by decide +kernel
theorem d_R_change_0 : decode b_R_change 0 = .ok (.aload_n 0, 1) := by decide +kernel
theorem d_R_change_1 : decode b_R_change 1 = .ok (.iconst 0, 1) := by decide +kernel
theorem d_R_change_2 : decode b_R_change 2 = .ok (.putfield 87, 3) := by decide +kernel
theorem d_R_change_5 : decode b_R_change 5 = .ok (.aload_n 0, 1) := by decide +kernel
theorem d_R_change_6 : decode b_R_change 6 = .ok (.iconst 0, 1) := by decide +kernel
theorem d_R_change_7 : decode b_R_change 7 = .ok (.putfield 91, 3) := by decide +kernel
theorem d_R_change_10 : decode b_R_change 10 = .ok (.return_, 1) := by decide +kernel
theorem d_R_clear_0 : decode b_R_clear 0 = .ok (.aload_n 0, 1) := by decide +kernel
theorem d_R_clear_1 : decode b_R_clear 1 = .ok (.iconst 0, 1) := by decide +kernel
theorem d_R_clear_2 : decode b_R_clear 2 = .ok (.putfield 83, 3) := by decide +kernel
theorem d_R_clear_5 : decode b_R_clear 5 = .ok (.aload_n 0, 1) := by decide +kernel
theorem d_R_clear_6 : decode b_R_clear 6 = .ok (.invokevirtual 105, 3) := by decide +kernel
theorem d_R_clear_9 : decode b_R_clear 9 = .ok (.aload_n 0, 1) := by decide +kernel
theorem d_R_clear_10 : decode b_R_clear 10 = .ok (.iconst 0, 1) := by decide +kernel
theorem d_R_clear_11 : decode b_R_clear 11 = .ok (.putfield 98, 3) := by decide +kernel
theorem d_R_clear_14 : decode b_R_clear 14 = .ok (.iconst 0, 1) := by decide +kernel
theorem d_R_clear_15 : decode b_R_clear 15 = .ok (.istore_n 1, 1) := by decide +kernel
theorem d_R_clear_16 : decode b_R_clear 16 = .ok (.iload_n 1, 1) := by decide +kernel
theorem d_R_clear_17 : decode b_R_clear 17 = .ok (.bipush 12, 2) := by decide +kernel
theorem d_R_clear_19 : decode b_R_clear 19 = .ok (.if_icmp .ge 16, 3) := by decide +kernel
theorem d_R_clear_22 : decode b_R_clear 22 = .ok (.aload_n 0, 1) := by decide +kernel
theorem d_R_clear_23 : decode b_R_clear 23 = .ok (.getfield 29, 3) := by decide +kernel
theorem d_R_clear_26 : decode b_R_clear 26 = .ok (.iload_n 1, 1) := by decide +kernel
theorem d_R_clear_27 : decode b_R_clear 27 = .ok (.iconst 0, 1) := by decide +kernel
theorem d_R_clear_28 : decode b_R_clear 28 = .ok (.bastore, 1) := by decide +kernel
theorem d_R_clear_29 : decode b_R_clear 29 = .ok (.iinc 1 1, 3) := by decide +kernel
theorem d_R_clear_32 : decode b_R_clear 32 = .ok (.goto (-16), 3) := by decide +kernel
theorem d_R_clear_35 : decode b_R_clear 35 = .ok (.return_, 1) := by decide +kernel
theorem d_R_comesHome_0 : decode b_R_comesHome 0 = .ok (.iconst 0, 1) := by decide +kernel
theorem d_R_comesHome_1 : decode b_R_comesHome 1 = .ok (.istore_n 2, 1) := by decide +kernel
theorem d_R_comesHome_2 : decode b_R_comesHome 2 = .ok (.iload_n 2, 1) := by decide +kernel
theorem d_R_comesHome_3 : decode b_R_comesHome 3 = .ok (.aload_n 0, 1) := by decide +kernel
theorem d_R_comesHome_4 : decode b_R_comesHome 4 = .ok (.getfield 164, 3) := by decide +kernel
theorem d_R_comesHome_7 : decode b_R_comesHome 7 = .ok (.if_icmp .ge 16, 3) := by decide +kernel
theorem d_R_comesHome_10 : decode b_R_comesHome 10 = .ok (.aload_n 0, 1) := by decide +kernel
theorem d_R_comesHome_11 : decode b_R_comesHome 11 = .ok (.getfield 68, 3) := by decide +kernel
theorem d_R_comesHome_14 : decode b_R_comesHome 14 = .ok (.iload_n 2, 1) := by decide +kernel
theorem d_R_comesHome_15 : decode b_R_comesHome 15 = .ok (.iconst (-1), 1) := by decide +kernel
theorem d_R_comesHome_16 : decode b_R_comesHome 16 = .ok (.iastore, 1) := by decide +kernel
theorem d_R_comesHome_17 : decode b_R_comesHome 17 = .ok (.iinc 2 1, 3) := by decide +kernel
theorem d_R_comesHome_20 : decode b_R_comesHome 20 = .ok (.goto (-18), 3) := by decide +kernel
theorem d_R_comesHome_23 : decode b_R_comesHome 23 = .ok (.aload_n 0, 1) := by decide +kernel
theorem d_R_comesHome_24 : decode b_R_comesHome 24 = .ok (.getfield 68, 3) := by decide +kernel
theorem d_R_comesHome_27 : decode b_R_comesHome 27 = .ok (.iload_n 1, 1) := by decide +kernel
theorem d_R_comesHome_28 : decode b_R_comesHome 28 = .ok (.iconst 0, 1) := by decide +kernel
theorem d_R_comesHome_29 : decode b_R_comesHome 29 = .ok (.iastore, 1) := by decide +kernel
theorem d_R_comesHome_30 : decode b_R_comesHome 30 = .ok (.aload_n 0, 1) := by decide +kernel
theorem d_R_comesHome_31 : decode b_R_comesHome 31 = .ok (.getfield 71, 3) := by decide +kernel
theorem d_R_comesHome_34 : decode b_R_comesHome 34 = .ok (.iconst 0, 1) := by decide +kernel
theorem d_R_comesHome_35 : decode b_R_comesHome 35 = .ok (.iload_n 1, 1) := by decide +kernel
theorem d_R_comesHome_36 : decode b_R_comesHome 36 = .ok (.iastore, 1) := by decide +kernel
theorem d_R_comesHome_37 : decode b_R_comesHome 37 = .ok (.iconst 1, 1) := by decide +kernel
theorem d_R_comesHome_38 : decode b_R_comesHome 38 = .ok (.istore_n 2, 1) := by decide +kernel
theorem d_R_comesHome_39 : decode b_R_comesHome 39 = .ok (.iconst 0, 1) := by decide +kernel
theorem d_R_comesHome_40 : decode b_R_comesHome 40 = .ok (.istore_n 3, 1) := by decide +kernel
theorem d_R_comesHome_41 : decode b_R_comesHome 41 = .ok (.iload_n 3, 1) := by decide +kernel
theorem d_R_comesHome_42 : decode b_R_comesHome 42 = .ok (.iload_n 2, 1) := by decide +kernel
theorem d_R_comesHome_43 : decode b_R_comesHome 43 = .ok (.if_icmp .ge 166, 3) := by decide +kernel
theorem d_R_comesHome_46 : decode b_R_comesHome 46 = .ok (.aload_n 0, 1) := by decide +kernel
theorem d_R_comesHome_47 : decode b_R_comesHome 47 = .ok (.getfield 71, 3) := by decide +kernel
theorem d_R_comesHome_50 : decode b_R_comesHome 50 = .ok (.iload_n 3, 1) := by decide +kernel
theorem d_R_comesHome_51 : decode b_R_comesHome 51 = .ok (.iaload, 1) := by decide +kernel
theorem d_R_comesHome_52 : decode b_R_comesHome 52 = .ok (.istore 4, 2) := by decide +kernel
theorem d_R_comesHome_54 : decode b_R_comesHome 54 = .ok (.aload_n 0, 1) := by decide +kernel
theorem d_R_comesHome_55 : decode b_R_comesHome 55 = .ok (.getfield 47, 3) := by decide +kernel
theorem d_R_comesHome_58 : decode b_R_comesHome 58 = .ok (.sipush 200, 3) := by decide +kernel
theorem d_R_comesHome_61 : decode b_R_comesHome 61 = .ok (.aload_n 0, 1) := by decide +kernel
theorem d_R_comesHome_62 : decode b_R_comesHome 62 = .ok (.getfield 77, 3) := by decide +kernel
theorem d_R_comesHome_65 : decode b_R_comesHome 65 = .ok (.iload 4, 2) := by decide +kernel
theorem d_R_comesHome_67 : decode b_R_comesHome 67 = .ok (.iaload, 1) := by decide +kernel
theorem d_R_comesHome_68 : decode b_R_comesHome 68 = .ok (.iadd, 1) := by decide +kernel
theorem d_R_comesHome_69 : decode b_R_comesHome 69 = .ok (.baload, 1) := by decide +kernel
theorem d_R_comesHome_70 : decode b_R_comesHome 70 = .ok (.ifCond .eq 24, 3) := by decide +kernel
theorem d_R_comesHome_73 : decode b_R_comesHome 73 = .ok (.aload_n 0, 1) := by decide +kernel
theorem d_R_comesHome_74 : decode b_R_comesHome 74 = .ok (.getfield 47, 3) := by decide +kernel
theorem d_R_comesHome_77 : decode b_R_comesHome 77 = .ok (.sipush 400, 3) := by decide +kernel
theorem d_R_comesHome_80 : decode b_R_comesHome 80 = .ok (.aload_n 0, 1) := by decide +kernel
theorem d_R_comesHome_81 : decode b_R_comesHome 81 = .ok (.getfield 80, 3) := by decide +kernel
theorem d_R_comesHome_84 : decode b_R_comesHome 84 = .ok (.iload 4, 2) := by decide +kernel
theorem d_R_comesHome_86 : decode b_R_comesHome 86 = .ok (.iaload, 1) := by decide +kernel
theorem d_R_comesHome_87 : decode b_R_comesHome 87 = .ok (.iadd, 1) := by decide +kernel
theorem d_R_comesHome_88 : decode b_R_comesHome 88 = .ok (.baload, 1) := by decide +kernel
theorem d_R_comesHome_89 : decode b_R_comesHome 89 = .ok (.ifCond .eq 5, 3) := by decide +kernel
theorem d_R_comesHome_92 : decode b_R_comesHome 92 = .ok (.iconst 1, 1) := by decide +kernel
theorem d_R_comesHome_93 : decode b_R_comesHome 93 = .ok (.ireturn, 1) := by decide +kernel
theorem d_R_comesHome_94 : decode b_R_comesHome 94 = .ok (.iconst 0, 1) := by decide +kernel
theorem d_R_comesHome_95 : decode b_R_comesHome 95 = .ok (.istore 5, 2) := by decide +kernel
theorem d_R_comesHome_97 : decode b_R_comesHome 97 = .ok (.iload 5, 2) := by decide +kernel
theorem d_R_comesHome_99 : decode b_R_comesHome 99 = .ok (.bipush 12, 2) := by decide +kernel
theorem d_R_comesHome_101 : decode b_R_comesHome 101 = .ok (.if_icmp .ge 102, 3) := by decide +kernel
theorem d_R_comesHome_104 : decode b_R_comesHome 104 = .ok (.aload_n 0, 1) := by decide +kernel
theorem d_R_comesHome_105 : decode b_R_comesHome 105 = .ok (.iconst 1, 1) := by decide +kernel
theorem d_R_comesHome_106 : decode b_R_comesHome 106 = .ok (.aload_n 0, 1) := by decide +kernel
theorem d_R_comesHome_107 : decode b_R_comesHome 107 = .ok (.getfield 77, 3) := by decide +kernel
theorem d_R_comesHome_110 : decode b_R_comesHome 110 = .ok (.iload 4, 2) := by decide +kernel
theorem d_R_comesHome_112 : decode b_R_comesHome 112 = .ok (.iaload, 1) := by decide +kernel
theorem d_R_comesHome_113 : decode b_R_comesHome 113 = .ok (.iload 5, 2) := by decide +kernel
theorem d_R_comesHome_115 : decode b_R_comesHome 115 = .ok (.invokevirtual 135, 3) := by decide +kernel
theorem d_R_comesHome_118 : decode b_R_comesHome 118 = .ok (.istore 6, 2) := by decide +kernel
theorem d_R_comesHome_120 : decode b_R_comesHome 120 = .ok (.aload_n 0, 1) := by decide +kernel
theorem d_R_comesHome_121 : decode b_R_comesHome 121 = .ok (.iconst 2, 1) := by decide +kernel
theorem d_R_comesHome_122 : decode b_R_comesHome 122 = .ok (.aload_n 0, 1) := by decide +kernel
theorem d_R_comesHome_123 : decode b_R_comesHome 123 = .ok (.getfield 80, 3) := by decide +kernel
theorem d_R_comesHome_126 : decode b_R_comesHome 126 = .ok (.iload 4, 2) := by decide +kernel
theorem d_R_comesHome_128 : decode b_R_comesHome 128 = .ok (.iaload, 1) := by decide +kernel
theorem d_R_comesHome_129 : decode b_R_comesHome 129 = .ok (.iload 5, 2) := by decide +kernel
theorem d_R_comesHome_131 : decode b_R_comesHome 131 = .ok (.invokevirtual 135, 3) := by decide +kernel
theorem d_R_comesHome_134 : decode b_R_comesHome 134 = .ok (.istore 7, 2) := by decide +kernel
theorem d_R_comesHome_136 : decode b_R_comesHome 136 = .ok (.iload 6, 2) := by decide +kernel
theorem d_R_comesHome_138 : decode b_R_comesHome 138 = .ok (.ifCond .lt 8, 3) := by decide +kernel
theorem d_R_comesHome_141 : decode b_R_comesHome 141 = .ok (.iload 7, 2) := by decide +kernel
theorem d_R_comesHome_143 : decode b_R_comesHome 143 = .ok (.ifCond .ge 7, 3) := by decide +kernel
theorem d_R_comesHome_146 : decode b_R_comesHome 146 = .ok (.iconst (-1), 1) := by decide +kernel
theorem d_R_comesHome_147 : decode b_R_comesHome 147 = .ok (.goto 11, 3) := by decide +kernel
theorem d_R_comesHome_150 : decode b_R_comesHome 150 = .ok (.aload_n 0, 1) := by decide +kernel
theorem d_R_comesHome_151 : decode b_R_comesHome 151 = .ok (.iload 6, 2) := by decide +kernel
theorem d_R_comesHome_153 : decode b_R_comesHome 153 = .ok (.iload 7, 2) := by decide +kernel
theorem d_R_comesHome_155 : decode b_R_comesHome 155 = .ok (.invokevirtual 167, 3) := by decide +kernel
theorem d_R_comesHome_158 : decode b_R_comesHome 158 = .ok (.istore 8, 2) := by decide +kernel
theorem d_R_comesHome_160 : decode b_R_comesHome 160 = .ok (.iload 8, 2) := by decide +kernel
theorem d_R_comesHome_162 : decode b_R_comesHome 162 = .ok (.ifCond .lt 35, 3) := by decide +kernel
theorem d_R_comesHome_165 : decode b_R_comesHome 165 = .ok (.aload_n 0, 1) := by decide +kernel
theorem d_R_comesHome_166 : decode b_R_comesHome 166 = .ok (.getfield 68, 3) := by decide +kernel
theorem d_R_comesHome_169 : decode b_R_comesHome 169 = .ok (.iload 8, 2) := by decide +kernel
theorem d_R_comesHome_171 : decode b_R_comesHome 171 = .ok (.iaload, 1) := by decide +kernel
theorem d_R_comesHome_172 : decode b_R_comesHome 172 = .ok (.ifCond .lt 6, 3) := by decide +kernel
theorem d_R_comesHome_175 : decode b_R_comesHome 175 = .ok (.goto 22, 3) := by decide +kernel
theorem d_R_comesHome_178 : decode b_R_comesHome 178 = .ok (.aload_n 0, 1) := by decide +kernel
theorem d_R_comesHome_179 : decode b_R_comesHome 179 = .ok (.getfield 68, 3) := by decide +kernel
theorem d_R_comesHome_182 : decode b_R_comesHome 182 = .ok (.iload 8, 2) := by decide +kernel
theorem d_R_comesHome_184 : decode b_R_comesHome 184 = .ok (.iconst 0, 1) := by decide +kernel
theorem d_R_comesHome_185 : decode b_R_comesHome 185 = .ok (.iastore, 1) := by decide +kernel
theorem d_R_comesHome_186 : decode b_R_comesHome 186 = .ok (.aload_n 0, 1) := by decide +kernel
theorem d_R_comesHome_187 : decode b_R_comesHome 187 = .ok (.getfield 71, 3) := by decide +kernel
theorem d_R_comesHome_190 : decode b_R_comesHome 190 = .ok (.iload_n 2, 1) := by decide +kernel
theorem d_R_comesHome_191 : decode b_R_comesHome 191 = .ok (.iload 8, 2) := by decide +kernel
theorem d_R_comesHome_193 : decode b_R_comesHome 193 = .ok (.iastore, 1) := by decide +kernel
theorem d_R_comesHome_194 : decode b_R_comesHome 194 = .ok (.iinc 2 1, 3) := by decide +kernel
theorem d_R_comesHome_197 : decode b_R_comesHome 197 = .ok (.iinc 5 1, 3) := by decide +kernel
theorem d_R_comesHome_200 : decode b_R_comesHome 200 = .ok (.goto (-103), 3) := by decide +kernel
theorem d_R_comesHome_203 : decode b_R_comesHome 203 = .ok (.iinc 3 1, 3) := by decide +kernel
theorem d_R_comesHome_206 : decode b_R_comesHome 206 = .ok (.goto (-165), 3) := by decide +kernel
theorem d_R_comesHome_209 : decode b_R_comesHome 209 = .ok (.iconst 0, 1) := by decide +kernel
theorem d_R_comesHome_210 : decode b_R_comesHome 210 = .ok (.ireturn, 1) := by decide +kernel
theorem d_R_conflict_0 : decode b_R_conflict 0 = .ok (.aload_n 0, 1) := by decide +kernel
theorem d_R_conflict_1 : decode b_R_conflict 1 = .ok (.aload_n 0, 1) := by decide +kernel
theorem d_R_conflict_2 : decode b_R_conflict 2 = .ok (.iload_n 1, 1) := by decide +kernel
theorem d_R_conflict_3 : decode b_R_conflict 3 = .ok (.invokevirtual 170, 3) := by decide +kernel
theorem d_R_conflict_6 : decode b_R_conflict 6 = .ok (.ifCond .eq 11, 3) := by decide +kernel
theorem d_R_conflict_9 : decode b_R_conflict 9 = .ok (.aload_n 0, 1) := by decide +kernel
theorem d_R_conflict_10 : decode b_R_conflict 10 = .ok (.iload_n 2, 1) := by decide +kernel
theorem d_R_conflict_11 : decode b_R_conflict 11 = .ok (.invokevirtual 170, 3) := by decide +kernel
theorem d_R_conflict_14 : decode b_R_conflict 14 = .ok (.ifCond .ne 7, 3) := by decide +kernel
theorem d_R_conflict_17 : decode b_R_conflict 17 = .ok (.iconst 1, 1) := by decide +kernel
theorem d_R_conflict_18 : decode b_R_conflict 18 = .ok (.goto 4, 3) := by decide +kernel
theorem d_R_conflict_21 : decode b_R_conflict 21 = .ok (.iconst 0, 1) := by decide +kernel
theorem d_R_conflict_22 : decode b_R_conflict 22 = .ok (.iconst 0, 1) := by decide +kernel
theorem d_R_conflict_23 : decode b_R_conflict 23 = .ok (.invokevirtual 101, 3) := by decide +kernel
theorem d_R_conflict_26 : decode b_R_conflict 26 = .ok (.ifCond .eq 5, 3) := by decide +kernel
theorem d_R_conflict_29 : decode b_R_conflict 29 = .ok (.iconst 0, 1) := by decide +kernel
theorem d_R_conflict_30 : decode b_R_conflict 30 = .ok (.ireturn, 1) := by decide +kernel
theorem d_R_conflict_31 : decode b_R_conflict 31 = .ok (.aload_n 0, 1) := by decide +kernel
theorem d_R_conflict_32 : decode b_R_conflict 32 = .ok (.iconst 1, 1) := by decide +kernel
theorem d_R_conflict_33 : decode b_R_conflict 33 = .ok (.iload_n 1, 1) := by decide +kernel
theorem d_R_conflict_34 : decode b_R_conflict 34 = .ok (.invokevirtual 173, 3) := by decide +kernel
theorem d_R_conflict_37 : decode b_R_conflict 37 = .ok (.ifCond .eq 12, 3) := by decide +kernel
theorem d_R_conflict_40 : decode b_R_conflict 40 = .ok (.aload_n 0, 1) := by decide +kernel
theorem d_R_conflict_41 : decode b_R_conflict 41 = .ok (.iconst 2, 1) := by decide +kernel
theorem d_R_conflict_42 : decode b_R_conflict 42 = .ok (.iload_n 2, 1) := by decide +kernel
theorem d_R_conflict_43 : decode b_R_conflict 43 = .ok (.invokevirtual 173, 3) := by decide +kernel
theorem d_R_conflict_46 : decode b_R_conflict 46 = .ok (.ifCond .ne 5, 3) := by decide +kernel
theorem d_R_conflict_49 : decode b_R_conflict 49 = .ok (.iconst (-1), 1) := by decide +kernel
theorem d_R_conflict_50 : decode b_R_conflict 50 = .ok (.ireturn, 1) := by decide +kernel
theorem d_R_conflict_51 : decode b_R_conflict 51 = .ok (.aload_n 0, 1) := by decide +kernel
theorem d_R_conflict_52 : decode b_R_conflict 52 = .ok (.iconst 0, 1) := by decide +kernel
theorem d_R_conflict_53 : decode b_R_conflict 53 = .ok (.putfield 164, 3) := by decide +kernel
theorem d_R_conflict_56 : decode b_R_conflict 56 = .ok (.aload_n 0, 1) := by decide +kernel
theorem d_R_conflict_57 : decode b_R_conflict 57 = .ok (.iconst 0, 1) := by decide +kernel
theorem d_R_conflict_58 : decode b_R_conflict 58 = .ok (.iconst 0, 1) := by decide +kernel
theorem d_R_conflict_59 : decode b_R_conflict 59 = .ok (.invokevirtual 167, 3) := by decide +kernel
theorem d_R_conflict_62 : decode b_R_conflict 62 = .ok (.pop, 1) := by decide +kernel
theorem d_R_conflict_63 : decode b_R_conflict 63 = .ok (.iconst 0, 1) := by decide +kernel
theorem d_R_conflict_64 : decode b_R_conflict 64 = .ok (.istore_n 3, 1) := by decide +kernel
theorem d_R_conflict_65 : decode b_R_conflict 65 = .ok (.iload_n 3, 1) := by decide +kernel
theorem d_R_conflict_66 : decode b_R_conflict 66 = .ok (.aload_n 0, 1) := by decide +kernel
theorem d_R_conflict_67 : decode b_R_conflict 67 = .ok (.getfield 164, 3) := by decide +kernel
theorem d_R_conflict_70 : decode b_R_conflict 70 = .ok (.if_icmp .ge 78, 3) := by decide +kernel
theorem d_R_conflict_73 : decode b_R_conflict 73 = .ok (.iconst 0, 1) := by decide +kernel
theorem d_R_conflict_74 : decode b_R_conflict 74 = .ok (.istore 4, 2) := by decide +kernel
theorem d_R_conflict_76 : decode b_R_conflict 76 = .ok (.iload 4, 2) := by decide +kernel
theorem d_R_conflict_78 : decode b_R_conflict 78 = .ok (.bipush 12, 2) := by decide +kernel
theorem d_R_conflict_80 : decode b_R_conflict 80 = .ok (.if_icmp .ge 62, 3) := by decide +kernel
theorem d_R_conflict_83 : decode b_R_conflict 83 = .ok (.aload_n 0, 1) := by decide +kernel
theorem d_R_conflict_84 : decode b_R_conflict 84 = .ok (.iconst 1, 1) := by decide +kernel
theorem d_R_conflict_85 : decode b_R_conflict 85 = .ok (.aload_n 0, 1) := by decide +kernel
theorem d_R_conflict_86 : decode b_R_conflict 86 = .ok (.getfield 77, 3) := by decide +kernel
theorem d_R_conflict_89 : decode b_R_conflict 89 = .ok (.iload_n 3, 1) := by decide +kernel
theorem d_R_conflict_90 : decode b_R_conflict 90 = .ok (.iaload, 1) := by decide +kernel
theorem d_R_conflict_91 : decode b_R_conflict 91 = .ok (.iload 4, 2) := by decide +kernel
theorem d_R_conflict_93 : decode b_R_conflict 93 = .ok (.invokevirtual 135, 3) := by decide +kernel
theorem d_R_conflict_96 : decode b_R_conflict 96 = .ok (.istore 5, 2) := by decide +kernel
theorem d_R_conflict_98 : decode b_R_conflict 98 = .ok (.aload_n 0, 1) := by decide +kernel
theorem d_R_conflict_99 : decode b_R_conflict 99 = .ok (.iconst 2, 1) := by decide +kernel
theorem d_R_conflict_100 : decode b_R_conflict 100 = .ok (.aload_n 0, 1) := by decide +kernel
theorem d_R_conflict_101 : decode b_R_conflict 101 = .ok (.getfield 80, 3) := by decide +kernel
theorem d_R_conflict_104 : decode b_R_conflict 104 = .ok (.iload_n 3, 1) := by decide +kernel
theorem d_R_conflict_105 : decode b_R_conflict 105 = .ok (.iaload, 1) := by decide +kernel
theorem d_R_conflict_106 : decode b_R_conflict 106 = .ok (.iload 4, 2) := by decide +kernel
theorem d_R_conflict_108 : decode b_R_conflict 108 = .ok (.invokevirtual 135, 3) := by decide +kernel
theorem d_R_conflict_111 : decode b_R_conflict 111 = .ok (.istore 6, 2) := by decide +kernel
theorem d_R_conflict_113 : decode b_R_conflict 113 = .ok (.iload 5, 2) := by decide +kernel
theorem d_R_conflict_115 : decode b_R_conflict 115 = .ok (.ifCond .lt 21, 3) := by decide +kernel
theorem d_R_conflict_118 : decode b_R_conflict 118 = .ok (.iload 6, 2) := by decide +kernel
theorem d_R_conflict_120 : decode b_R_conflict 120 = .ok (.ifCond .lt 16, 3) := by decide +kernel
theorem d_R_conflict_123 : decode b_R_conflict 123 = .ok (.aload_n 0, 1) := by decide +kernel
theorem d_R_conflict_124 : decode b_R_conflict 124 = .ok (.iload 5, 2) := by decide +kernel
theorem d_R_conflict_126 : decode b_R_conflict 126 = .ok (.iload 6, 2) := by decide +kernel
theorem d_R_conflict_128 : decode b_R_conflict 128 = .ok (.invokevirtual 167, 3) := by decide +kernel
theorem d_R_conflict_131 : decode b_R_conflict 131 = .ok (.ifCond .ge 5, 3) := by decide +kernel
theorem d_R_conflict_134 : decode b_R_conflict 134 = .ok (.iconst (-1), 1) := by decide +kernel
theorem d_R_conflict_135 : decode b_R_conflict 135 = .ok (.ireturn, 1) := by decide +kernel
theorem d_R_conflict_136 : decode b_R_conflict 136 = .ok (.iinc 4 1, 3) := by decide +kernel
theorem d_R_conflict_139 : decode b_R_conflict 139 = .ok (.goto (-63), 3) := by decide +kernel
theorem d_R_conflict_142 : decode b_R_conflict 142 = .ok (.iinc 3 1, 3) := by decide +kernel
theorem d_R_conflict_145 : decode b_R_conflict 145 = .ok (.goto (-80), 3) := by decide +kernel
theorem d_R_conflict_148 : decode b_R_conflict 148 = .ok (.iconst 0, 1) := by decide +kernel
theorem d_R_conflict_149 : decode b_R_conflict 149 = .ok (.istore_n 3, 1) := by decide +kernel
theorem d_R_conflict_150 : decode b_R_conflict 150 = .ok (.iload_n 3, 1) := by decide +kernel
theorem d_R_conflict_151 : decode b_R_conflict 151 = .ok (.aload_n 0, 1) := by decide +kernel
theorem d_R_conflict_152 : decode b_R_conflict 152 = .ok (.getfield 164, 3) := by decide +kernel
theorem d_R_conflict_155 : decode b_R_conflict 155 = .ok (.if_icmp .ge 19, 3) := by decide +kernel
theorem d_R_conflict_158 : decode b_R_conflict 158 = .ok (.aload_n 0, 1) := by decide +kernel
theorem d_R_conflict_159 : decode b_R_conflict 159 = .ok (.iload_n 3, 1) := by decide +kernel
theorem d_R_conflict_160 : decode b_R_conflict 160 = .ok (.invokevirtual 176, 3) := by decide +kernel
theorem d_R_conflict_163 : decode b_R_conflict 163 = .ok (.ifCond .ne 5, 3) := by decide +kernel
theorem d_R_conflict_166 : decode b_R_conflict 166 = .ok (.iconst 1, 1) := by decide +kernel
theorem d_R_conflict_167 : decode b_R_conflict 167 = .ok (.ireturn, 1) := by decide +kernel
theorem d_R_conflict_168 : decode b_R_conflict 168 = .ok (.iinc 3 1, 3) := by decide +kernel
theorem d_R_conflict_171 : decode b_R_conflict 171 = .ok (.goto (-21), 3) := by decide +kernel
theorem d_R_conflict_174 : decode b_R_conflict 174 = .ok (.iconst 0, 1) := by decide +kernel
theorem d_R_conflict_175 : decode b_R_conflict 175 = .ok (.ireturn, 1) := by decide +kernel
theorem d_R_couple_0 : decode b_R_couple 0 = .ok (.iconst 0, 1) := by decide +kernel
theorem d_R_couple_1 : decode b_R_couple 1 = .ok (.istore_n 3, 1) := by decide +kernel
theorem d_R_couple_2 : decode b_R_couple 2 = .ok (.iload_n 3, 1) := by decide +kernel
theorem d_R_couple_3 : decode b_R_couple 3 = .ok (.aload_n 0, 1) := by decide +kernel
theorem d_R_couple_4 : decode b_R_couple 4 = .ok (.getfield 164, 3) := by decide +kernel
theorem d_R_couple_7 : decode b_R_couple 7 = .ok (.if_icmp .ge 31, 3) := by decide +kernel
theorem d_R_couple_10 : decode b_R_couple 10 = .ok (.aload_n 0, 1) := by decide +kernel
theorem d_R_couple_11 : decode b_R_couple 11 = .ok (.getfield 77, 3) := by decide +kernel
theorem d_R_couple_14 : decode b_R_couple 14 = .ok (.iload_n 3, 1) := by decide +kernel
theorem d_R_couple_15 : decode b_R_couple 15 = .ok (.iaload, 1) := by decide +kernel
theorem d_R_couple_16 : decode b_R_couple 16 = .ok (.iload_n 1, 1) := by decide +kernel
theorem d_R_couple_17 : decode b_R_couple 17 = .ok (.if_icmp .ne 15, 3) := by decide +kernel
theorem d_R_couple_20 : decode b_R_couple 20 = .ok (.aload_n 0, 1) := by decide +kernel
theorem d_R_couple_21 : decode b_R_couple 21 = .ok (.getfield 80, 3) := by decide +kernel
theorem d_R_couple_24 : decode b_R_couple 24 = .ok (.iload_n 3, 1) := by decide +kernel
theorem d_R_couple_25 : decode b_R_couple 25 = .ok (.iaload, 1) := by decide +kernel
theorem d_R_couple_26 : decode b_R_couple 26 = .ok (.iload_n 2, 1) := by decide +kernel
theorem d_R_couple_27 : decode b_R_couple 27 = .ok (.if_icmp .ne 5, 3) := by decide +kernel
theorem d_R_couple_30 : decode b_R_couple 30 = .ok (.iload_n 3, 1) := by decide +kernel
theorem d_R_couple_31 : decode b_R_couple 31 = .ok (.ireturn, 1) := by decide +kernel
theorem d_R_couple_32 : decode b_R_couple 32 = .ok (.iinc 3 1, 3) := by decide +kernel
theorem d_R_couple_35 : decode b_R_couple 35 = .ok (.goto (-33), 3) := by decide +kernel
theorem d_R_couple_38 : decode b_R_couple 38 = .ok (.aload_n 0, 1) := by decide +kernel
theorem d_R_couple_39 : decode b_R_couple 39 = .ok (.getfield 164, 3) := by decide +kernel
theorem d_R_couple_42 : decode b_R_couple 42 = .ok (.sipush 200, 3) := by decide +kernel
theorem d_R_couple_45 : decode b_R_couple 45 = .ok (.if_icmp .ne 5, 3) := by decide +kernel
theorem d_R_couple_48 : decode b_R_couple 48 = .ok (.iconst (-1), 1) := by decide +kernel
theorem d_R_couple_49 : decode b_R_couple 49 = .ok (.ireturn, 1) := by decide +kernel
theorem d_R_couple_50 : decode b_R_couple 50 = .ok (.aload_n 0, 1) := by decide +kernel
theorem d_R_couple_51 : decode b_R_couple 51 = .ok (.getfield 77, 3) := by decide +kernel
theorem d_R_couple_54 : decode b_R_couple 54 = .ok (.aload_n 0, 1) := by decide +kernel
theorem d_R_couple_55 : decode b_R_couple 55 = .ok (.getfield 164, 3) := by decide +kernel
theorem d_R_couple_58 : decode b_R_couple 58 = .ok (.iload_n 1, 1) := by decide +kernel
theorem d_R_couple_59 : decode b_R_couple 59 = .ok (.iastore, 1) := by decide +kernel
theorem d_R_couple_60 : decode b_R_couple 60 = .ok (.aload_n 0, 1) := by decide +kernel
theorem d_R_couple_61 : decode b_R_couple 61 = .ok (.getfield 80, 3) := by decide +kernel
theorem d_R_couple_64 : decode b_R_couple 64 = .ok (.aload_n 0, 1) := by decide +kernel
theorem d_R_couple_65 : decode b_R_couple 65 = .ok (.getfield 164, 3) := by decide +kernel
theorem d_R_couple_68 : decode b_R_couple 68 = .ok (.iload_n 2, 1) := by decide +kernel
theorem d_R_couple_69 : decode b_R_couple 69 = .ok (.iastore, 1) := by decide +kernel
theorem d_R_couple_70 : decode b_R_couple 70 = .ok (.aload_n 0, 1) := by decide +kernel
theorem d_R_couple_71 : decode b_R_couple 71 = .ok (.dup, 1) := by decide +kernel
theorem d_R_couple_72 : decode b_R_couple 72 = .ok (.getfield 164, 3) := by decide +kernel
theorem d_R_couple_75 : decode b_R_couple 75 = .ok (.iconst 1, 1) := by decide +kernel
theorem d_R_couple_76 : decode b_R_couple 76 = .ok (.iadd, 1) := by decide +kernel
theorem d_R_couple_77 : decode b_R_couple 77 = .ok (.putfield 164, 3) := by decide +kernel
theorem d_R_couple_80 : decode b_R_couple 80 = .ok (.aload_n 0, 1) := by decide +kernel
theorem d_R_couple_81 : decode b_R_couple 81 = .ok (.getfield 164, 3) := by decide +kernel
theorem d_R_couple_84 : decode b_R_couple 84 = .ok (.iconst 1, 1) := by decide +kernel
theorem d_R_couple_85 : decode b_R_couple 85 = .ok (.isub, 1) := by decide +kernel
theorem d_R_couple_86 : decode b_R_couple 86 = .ok (.ireturn, 1) := by decide +kernel
theorem d_R_digit_0 : decode b_R_digit 0 = .ok (.iload_n 0, 1) := by decide +kernel
theorem d_R_digit_1 : decode b_R_digit 1 = .ok (.istore_n 2, 1) := by decide +kernel
theorem d_R_digit_2 : decode b_R_digit 2 = .ok (.iconst 0, 1) := by decide +kernel
theorem d_R_digit_3 : decode b_R_digit 3 = .ok (.istore_n 3, 1) := by decide +kernel
theorem d_R_digit_4 : decode b_R_digit 4 = .ok (.iload_n 3, 1) := by decide +kernel
theorem d_R_digit_5 : decode b_R_digit 5 = .ok (.iload_n 1, 1) := by decide +kernel
theorem d_R_digit_6 : decode b_R_digit 6 = .ok (.if_icmp .ge 14, 3) := by decide +kernel
theorem d_R_digit_9 : decode b_R_digit 9 = .ok (.iload_n 2, 1) := by decide +kernel
theorem d_R_digit_10 : decode b_R_digit 10 = .ok (.bipush 6, 2) := by decide +kernel
theorem d_R_digit_12 : decode b_R_digit 12 = .ok (.idiv, 1) := by decide +kernel
theorem d_R_digit_13 : decode b_R_digit 13 = .ok (.istore_n 2, 1) := by decide +kernel
theorem d_R_digit_14 : decode b_R_digit 14 = .ok (.iinc 3 1, 3) := by decide +kernel
theorem d_R_digit_17 : decode b_R_digit 17 = .ok (.goto (-13), 3) := by decide +kernel
theorem d_R_digit_20 : decode b_R_digit 20 = .ok (.iload_n 2, 1) := by decide +kernel
theorem d_R_digit_21 : decode b_R_digit 21 = .ok (.bipush 6, 2) := by decide +kernel
theorem d_R_digit_23 : decode b_R_digit 23 = .ok (.irem, 1) := by decide +kernel
theorem d_R_digit_24 : decode b_R_digit 24 = .ok (.ireturn, 1) := by decide +kernel
theorem d_R_edge_0 : decode b_R_edge 0 = .ok (.aload_n 0, 1) := by decide +kernel
theorem d_R_edge_1 : decode b_R_edge 1 = .ok (.iload_n 1, 1) := by decide +kernel
theorem d_R_edge_2 : decode b_R_edge 2 = .ok (.iload_n 2, 1) := by decide +kernel
theorem d_R_edge_3 : decode b_R_edge 3 = .ok (.invokevirtual 108, 3) := by decide +kernel
theorem d_R_edge_6 : decode b_R_edge 6 = .ok (.ifCond .ne 22, 3) := by decide +kernel
theorem d_R_edge_9 : decode b_R_edge 9 = .ok (.aload_n 0, 1) := by decide +kernel
theorem d_R_edge_10 : decode b_R_edge 10 = .ok (.iload_n 1, 1) := by decide +kernel
theorem d_R_edge_11 : decode b_R_edge 11 = .ok (.iload 4, 2) := by decide +kernel
theorem d_R_edge_13 : decode b_R_edge 13 = .ok (.invokevirtual 108, 3) := by decide +kernel
theorem d_R_edge_16 : decode b_R_edge 16 = .ok (.ifCond .ne 12, 3) := by decide +kernel
theorem d_R_edge_19 : decode b_R_edge 19 = .ok (.iload_n 3, 1) := by decide +kernel
theorem d_R_edge_20 : decode b_R_edge 20 = .ok (.bipush 12, 2) := by decide +kernel
theorem d_R_edge_22 : decode b_R_edge 22 = .ok (.invokestatic 94, 3) := by decide +kernel
theorem d_R_edge_25 : decode b_R_edge 25 = .ok (.ifCond .eq 7, 3) := by decide +kernel
theorem d_R_edge_28 : decode b_R_edge 28 = .ok (.iconst 1, 1) := by decide +kernel
theorem d_R_edge_29 : decode b_R_edge 29 = .ok (.goto 4, 3) := by decide +kernel
theorem d_R_edge_32 : decode b_R_edge 32 = .ok (.iconst 0, 1) := by decide +kernel
theorem d_R_edge_33 : decode b_R_edge 33 = .ok (.istore 5, 2) := by decide +kernel
theorem d_R_edge_35 : decode b_R_edge 35 = .ok (.aload_n 0, 1) := by decide +kernel
theorem d_R_edge_36 : decode b_R_edge 36 = .ok (.iload 5, 2) := by decide +kernel
theorem d_R_edge_38 : decode b_R_edge 38 = .ok (.iload 5, 2) := by decide +kernel
theorem d_R_edge_40 : decode b_R_edge 40 = .ok (.ifCond .ne 35, 3) := by decide +kernel
theorem d_R_edge_43 : decode b_R_edge 43 = .ok (.aload_n 0, 1) := by decide +kernel
theorem d_R_edge_44 : decode b_R_edge 44 = .ok (.getfield 29, 3) := by decide +kernel
theorem d_R_edge_47 : decode b_R_edge 47 = .ok (.iload_n 3, 1) := by decide +kernel
theorem d_R_edge_48 : decode b_R_edge 48 = .ok (.baload, 1) := by decide +kernel
theorem d_R_edge_49 : decode b_R_edge 49 = .ok (.ifCond .eq 22, 3) := by decide +kernel
theorem d_R_edge_52 : decode b_R_edge 52 = .ok (.aload_n 0, 1) := by decide +kernel
theorem d_R_edge_53 : decode b_R_edge 53 = .ok (.getfield 26, 3) := by decide +kernel
theorem d_R_edge_56 : decode b_R_edge 56 = .ok (.bipush 72, 2) := by decide +kernel
theorem d_R_edge_58 : decode b_R_edge 58 = .ok (.iload_n 1, 1) := by decide +kernel
theorem d_R_edge_59 : decode b_R_edge 59 = .ok (.imul, 1) := by decide +kernel
theorem d_R_edge_60 : decode b_R_edge 60 = .ok (.bipush 12, 2) := by decide +kernel
theorem d_R_edge_62 : decode b_R_edge 62 = .ok (.iload_n 2, 1) := by decide +kernel
theorem d_R_edge_63 : decode b_R_edge 63 = .ok (.imul, 1) := by decide +kernel
theorem d_R_edge_64 : decode b_R_edge 64 = .ok (.iadd, 1) := by decide +kernel
theorem d_R_edge_65 : decode b_R_edge 65 = .ok (.iload_n 3, 1) := by decide +kernel
theorem d_R_edge_66 : decode b_R_edge 66 = .ok (.iadd, 1) := by decide +kernel
theorem d_R_edge_67 : decode b_R_edge 67 = .ok (.iaload, 1) := by decide +kernel
theorem d_R_edge_68 : decode b_R_edge 68 = .ok (.ifCond .lt 7, 3) := by decide +kernel
theorem d_R_edge_71 : decode b_R_edge 71 = .ok (.iconst 1, 1) := by decide +kernel
theorem d_R_edge_72 : decode b_R_edge 72 = .ok (.goto 4, 3) := by decide +kernel
theorem d_R_edge_75 : decode b_R_edge 75 = .ok (.iconst 0, 1) := by decide +kernel
theorem d_R_edge_76 : decode b_R_edge 76 = .ok (.invokevirtual 101, 3) := by decide +kernel
theorem d_R_edge_79 : decode b_R_edge 79 = .ok (.ifCond .eq 4, 3) := by decide +kernel
theorem d_R_edge_82 : decode b_R_edge 82 = .ok (.return_, 1) := by decide +kernel
theorem d_R_edge_83 : decode b_R_edge 83 = .ok (.aload_n 0, 1) := by decide +kernel
theorem d_R_edge_84 : decode b_R_edge 84 = .ok (.invokevirtual 105, 3) := by decide +kernel
theorem d_R_edge_87 : decode b_R_edge 87 = .ok (.aload_n 0, 1) := by decide +kernel
theorem d_R_edge_88 : decode b_R_edge 88 = .ok (.getfield 26, 3) := by decide +kernel
theorem d_R_edge_91 : decode b_R_edge 91 = .ok (.bipush 72, 2) := by decide +kernel
theorem d_R_edge_93 : decode b_R_edge 93 = .ok (.iload_n 1, 1) := by decide +kernel
theorem d_R_edge_94 : decode b_R_edge 94 = .ok (.imul, 1) := by decide +kernel
theorem d_R_edge_95 : decode b_R_edge 95 = .ok (.bipush 12, 2) := by decide +kernel
theorem d_R_edge_97 : decode b_R_edge 97 = .ok (.iload_n 2, 1) := by decide +kernel
theorem d_R_edge_98 : decode b_R_edge 98 = .ok (.imul, 1) := by decide +kernel
theorem d_R_edge_99 : decode b_R_edge 99 = .ok (.iadd, 1) := by decide +kernel
theorem d_R_edge_100 : decode b_R_edge 100 = .ok (.iload_n 3, 1) := by decide +kernel
theorem d_R_edge_101 : decode b_R_edge 101 = .ok (.iadd, 1) := by decide +kernel
theorem d_R_edge_102 : decode b_R_edge 102 = .ok (.iload 4, 2) := by decide +kernel
theorem d_R_edge_104 : decode b_R_edge 104 = .ok (.iastore, 1) := by decide +kernel
theorem d_R_edge_105 : decode b_R_edge 105 = .ok (.return_, 1) := by decide +kernel
theorem d_R_event_0 : decode b_R_event 0 = .ok (.iload_n 1, 1) := by decide +kernel
theorem d_R_event_1 : decode b_R_event 1 = .ok (.bipush 12, 2) := by decide +kernel
theorem d_R_event_3 : decode b_R_event 3 = .ok (.invokestatic 94, 3) := by decide +kernel
theorem d_R_event_6 : decode b_R_event 6 = .ok (.istore_n 3, 1) := by decide +kernel
theorem d_R_event_7 : decode b_R_event 7 = .ok (.aload_n 0, 1) := by decide +kernel
theorem d_R_event_8 : decode b_R_event 8 = .ok (.iload_n 3, 1) := by decide +kernel
theorem d_R_event_9 : decode b_R_event 9 = .ok (.iload_n 3, 1) := by decide +kernel
theorem d_R_event_10 : decode b_R_event 10 = .ok (.ifCond .ne 26, 3) := by decide +kernel
theorem d_R_event_13 : decode b_R_event 13 = .ok (.aload_n 0, 1) := by decide +kernel
theorem d_R_event_14 : decode b_R_event 14 = .ok (.getfield 29, 3) := by decide +kernel
theorem d_R_event_17 : decode b_R_event 17 = .ok (.iload_n 1, 1) := by decide +kernel
theorem d_R_event_18 : decode b_R_event 18 = .ok (.baload, 1) := by decide +kernel
theorem d_R_event_19 : decode b_R_event 19 = .ok (.ifCond .eq 17, 3) := by decide +kernel
theorem d_R_event_22 : decode b_R_event 22 = .ok (.aload_n 0, 1) := by decide +kernel
theorem d_R_event_23 : decode b_R_event 23 = .ok (.getfield 32, 3) := by decide +kernel
theorem d_R_event_26 : decode b_R_event 26 = .ok (.iload_n 1, 1) := by decide +kernel
theorem d_R_event_27 : decode b_R_event 27 = .ok (.baload, 1) := by decide +kernel
theorem d_R_event_28 : decode b_R_event 28 = .ok (.iload_n 2, 1) := by decide +kernel
theorem d_R_event_29 : decode b_R_event 29 = .ok (.if_icmp .eq 7, 3) := by decide +kernel
theorem d_R_event_32 : decode b_R_event 32 = .ok (.iconst 1, 1) := by decide +kernel
theorem d_R_event_33 : decode b_R_event 33 = .ok (.goto 4, 3) := by decide +kernel
theorem d_R_event_36 : decode b_R_event 36 = .ok (.iconst 0, 1) := by decide +kernel
theorem d_R_event_37 : decode b_R_event 37 = .ok (.invokevirtual 101, 3) := by decide +kernel
theorem d_R_event_40 : decode b_R_event 40 = .ok (.ifCond .eq 5, 3) := by decide +kernel
theorem d_R_event_43 : decode b_R_event 43 = .ok (.iconst 0, 1) := by decide +kernel
theorem d_R_event_44 : decode b_R_event 44 = .ok (.ireturn, 1) := by decide +kernel
theorem d_R_event_45 : decode b_R_event 45 = .ok (.aload_n 0, 1) := by decide +kernel
theorem d_R_event_46 : decode b_R_event 46 = .ok (.getfield 29, 3) := by decide +kernel
theorem d_R_event_49 : decode b_R_event 49 = .ok (.iload_n 1, 1) := by decide +kernel
theorem d_R_event_50 : decode b_R_event 50 = .ok (.baload, 1) := by decide +kernel
theorem d_R_event_51 : decode b_R_event 51 = .ok (.ifCond .eq 5, 3) := by decide +kernel
theorem d_R_event_54 : decode b_R_event 54 = .ok (.iconst 0, 1) := by decide +kernel
theorem d_R_event_55 : decode b_R_event 55 = .ok (.ireturn, 1) := by decide +kernel
theorem d_R_event_56 : decode b_R_event 56 = .ok (.aload_n 0, 1) := by decide +kernel
theorem d_R_event_57 : decode b_R_event 57 = .ok (.invokevirtual 105, 3) := by decide +kernel
theorem d_R_event_60 : decode b_R_event 60 = .ok (.aload_n 0, 1) := by decide +kernel
theorem d_R_event_61 : decode b_R_event 61 = .ok (.getfield 29, 3) := by decide +kernel
theorem d_R_event_64 : decode b_R_event 64 = .ok (.iload_n 1, 1) := by decide +kernel
theorem d_R_event_65 : decode b_R_event 65 = .ok (.iconst 1, 1) := by decide +kernel
theorem d_R_event_66 : decode b_R_event 66 = .ok (.bastore, 1) := by decide +kernel
theorem d_R_event_67 : decode b_R_event 67 = .ok (.aload_n 0, 1) := by decide +kernel
theorem d_R_event_68 : decode b_R_event 68 = .ok (.getfield 32, 3) := by decide +kernel
theorem d_R_event_71 : decode b_R_event 71 = .ok (.iload_n 1, 1) := by decide +kernel
theorem d_R_event_72 : decode b_R_event 72 = .ok (.iload_n 2, 1) := by decide +kernel
theorem d_R_event_73 : decode b_R_event 73 = .ok (.bastore, 1) := by decide +kernel
theorem d_R_event_74 : decode b_R_event 74 = .ok (.iconst 1, 1) := by decide +kernel
theorem d_R_event_75 : decode b_R_event 75 = .ok (.ireturn, 1) := by decide +kernel
theorem d_R_explore_0 : decode b_R_explore 0 = .ok (.iconst 0, 1) := by decide +kernel
theorem d_R_explore_1 : decode b_R_explore 1 = .ok (.istore_n 3, 1) := by decide +kernel
theorem d_R_explore_2 : decode b_R_explore 2 = .ok (.aload_n 0, 1) := by decide +kernel
theorem d_R_explore_3 : decode b_R_explore 3 = .ok (.getfield 98, 3) := by decide +kernel
theorem d_R_explore_6 : decode b_R_explore 6 = .ok (.iconst 1, 1) := by decide +kernel
theorem d_R_explore_7 : decode b_R_explore 7 = .ok (.isub, 1) := by decide +kernel
theorem d_R_explore_8 : decode b_R_explore 8 = .ok (.istore 4, 2) := by decide +kernel
theorem d_R_explore_10 : decode b_R_explore 10 = .ok (.iload 4, 2) := by decide +kernel
theorem d_R_explore_12 : decode b_R_explore 12 = .ok (.ifCond .lt 36, 3) := by decide +kernel
theorem d_R_explore_15 : decode b_R_explore 15 = .ok (.bipush 6, 2) := by decide +kernel
theorem d_R_explore_17 : decode b_R_explore 17 = .ok (.iload_n 3, 1) := by decide +kernel
theorem d_R_explore_18 : decode b_R_explore 18 = .ok (.imul, 1) := by decide +kernel
theorem d_R_explore_19 : decode b_R_explore 19 = .ok (.aload_n 0, 1) := by decide +kernel
theorem d_R_explore_20 : decode b_R_explore 20 = .ok (.iload 4, 2) := by decide +kernel
theorem d_R_explore_22 : decode b_R_explore 22 = .ok (.iload_n 2, 1) := by decide +kernel
theorem d_R_explore_23 : decode b_R_explore 23 = .ok (.invokevirtual 111, 3) := by decide +kernel
theorem d_R_explore_26 : decode b_R_explore 26 = .ok (.ifCond .eq 13, 3) := by decide +kernel
theorem d_R_explore_29 : decode b_R_explore 29 = .ok (.aload_n 0, 1) := by decide +kernel
theorem d_R_explore_30 : decode b_R_explore 30 = .ok (.getfield 17, 3) := by decide +kernel
theorem d_R_explore_33 : decode b_R_explore 33 = .ok (.iload 4, 2) := by decide +kernel
theorem d_R_explore_35 : decode b_R_explore 35 = .ok (.iaload, 1) := by decide +kernel
theorem d_R_explore_36 : decode b_R_explore 36 = .ok (.goto 4, 3) := by decide +kernel
theorem d_R_explore_39 : decode b_R_explore 39 = .ok (.iconst 0, 1) := by decide +kernel
theorem d_R_explore_40 : decode b_R_explore 40 = .ok (.iadd, 1) := by decide +kernel
theorem d_R_explore_41 : decode b_R_explore 41 = .ok (.istore_n 3, 1) := by decide +kernel
theorem d_R_explore_42 : decode b_R_explore 42 = .ok (.iinc 4 (-1), 3) := by decide +kernel
theorem d_R_explore_45 : decode b_R_explore 45 = .ok (.goto (-35), 3) := by decide +kernel
theorem d_R_explore_48 : decode b_R_explore 48 = .ok (.aload_n 0, 1) := by decide +kernel
theorem d_R_explore_49 : decode b_R_explore 49 = .ok (.getfield 35, 3) := by decide +kernel
theorem d_R_explore_52 : decode b_R_explore 52 = .ok (.iload_n 1, 1) := by decide +kernel
theorem d_R_explore_53 : decode b_R_explore 53 = .ok (.iconst 0, 1) := by decide +kernel
theorem d_R_explore_54 : decode b_R_explore 54 = .ok (.iastore, 1) := by decide +kernel
theorem d_R_explore_55 : decode b_R_explore 55 = .ok (.aload_n 0, 1) := by decide +kernel
theorem d_R_explore_56 : decode b_R_explore 56 = .ok (.iload_n 1, 1) := by decide +kernel
theorem d_R_explore_57 : decode b_R_explore 57 = .ok (.iload_n 3, 1) := by decide +kernel
theorem d_R_explore_58 : decode b_R_explore 58 = .ok (.invokevirtual 121, 3) := by decide +kernel
theorem d_R_explore_61 : decode b_R_explore 61 = .ok (.pop, 1) := by decide +kernel
theorem d_R_explore_62 : decode b_R_explore 62 = .ok (.iconst 0, 1) := by decide +kernel
theorem d_R_explore_63 : decode b_R_explore 63 = .ok (.istore 4, 2) := by decide +kernel
theorem d_R_explore_65 : decode b_R_explore 65 = .ok (.iload 4, 2) := by decide +kernel
theorem d_R_explore_67 : decode b_R_explore 67 = .ok (.aload_n 0, 1) := by decide +kernel
theorem d_R_explore_68 : decode b_R_explore 68 = .ok (.getfield 35, 3) := by decide +kernel
theorem d_R_explore_71 : decode b_R_explore 71 = .ok (.iload_n 1, 1) := by decide +kernel
theorem d_R_explore_72 : decode b_R_explore 72 = .ok (.iaload, 1) := by decide +kernel
theorem d_R_explore_73 : decode b_R_explore 73 = .ok (.if_icmp .ge 259, 3) := by decide +kernel
theorem d_R_explore_76 : decode b_R_explore 76 = .ok (.sipush 200, 3) := by decide +kernel
theorem d_R_explore_79 : decode b_R_explore 79 = .ok (.iload_n 1, 1) := by decide +kernel
theorem d_R_explore_80 : decode b_R_explore 80 = .ok (.imul, 1) := by decide +kernel
theorem d_R_explore_81 : decode b_R_explore 81 = .ok (.iload 4, 2) := by decide +kernel
theorem d_R_explore_83 : decode b_R_explore 83 = .ok (.iadd, 1) := by decide +kernel
theorem d_R_explore_84 : decode b_R_explore 84 = .ok (.istore 5, 2) := by decide +kernel
theorem d_R_explore_86 : decode b_R_explore 86 = .ok (.aload_n 0, 1) := by decide +kernel
theorem d_R_explore_87 : decode b_R_explore 87 = .ok (.getfield 47, 3) := by decide +kernel
theorem d_R_explore_90 : decode b_R_explore 90 = .ok (.iload 5, 2) := by decide +kernel
theorem d_R_explore_92 : decode b_R_explore 92 = .ok (.iconst 1, 1) := by decide +kernel
theorem d_R_explore_93 : decode b_R_explore 93 = .ok (.bastore, 1) := by decide +kernel
theorem d_R_explore_94 : decode b_R_explore 94 = .ok (.aload_n 0, 1) := by decide +kernel
theorem d_R_explore_95 : decode b_R_explore 95 = .ok (.getfield 50, 3) := by decide +kernel
theorem d_R_explore_98 : decode b_R_explore 98 = .ok (.iload 5, 2) := by decide +kernel
theorem d_R_explore_100 : decode b_R_explore 100 = .ok (.iconst 0, 1) := by decide +kernel
theorem d_R_explore_101 : decode b_R_explore 101 = .ok (.bastore, 1) := by decide +kernel
theorem d_R_explore_102 : decode b_R_explore 102 = .ok (.iconst 0, 1) := by decide +kernel
theorem d_R_explore_103 : decode b_R_explore 103 = .ok (.istore 6, 2) := by decide +kernel
theorem d_R_explore_105 : decode b_R_explore 105 = .ok (.iload 6, 2) := by decide +kernel
theorem d_R_explore_107 : decode b_R_explore 107 = .ok (.aload_n 0, 1) := by decide +kernel
theorem d_R_explore_108 : decode b_R_explore 108 = .ok (.getfield 98, 3) := by decide +kernel
theorem d_R_explore_111 : decode b_R_explore 111 = .ok (.if_icmp .ge 106, 3) := by decide +kernel
theorem d_R_explore_114 : decode b_R_explore 114 = .ok (.bipush 6, 2) := by decide +kernel
theorem d_R_explore_116 : decode b_R_explore 116 = .ok (.iload 6, 2) := by decide +kernel
theorem d_R_explore_118 : decode b_R_explore 118 = .ok (.imul, 1) := by decide +kernel
theorem d_R_explore_119 : decode b_R_explore 119 = .ok (.aload_n 0, 1) := by decide +kernel
theorem d_R_explore_120 : decode b_R_explore 120 = .ok (.getfield 38, 3) := by decide +kernel
theorem d_R_explore_123 : decode b_R_explore 123 = .ok (.iload 5, 2) := by decide +kernel
theorem d_R_explore_125 : decode b_R_explore 125 = .ok (.iaload, 1) := by decide +kernel
theorem d_R_explore_126 : decode b_R_explore 126 = .ok (.iload 6, 2) := by decide +kernel
theorem d_R_explore_128 : decode b_R_explore 128 = .ok (.invokestatic 114, 3) := by decide +kernel
theorem d_R_explore_131 : decode b_R_explore 131 = .ok (.iadd, 1) := by decide +kernel
theorem d_R_explore_132 : decode b_R_explore 132 = .ok (.istore 7, 2) := by decide +kernel
theorem d_R_explore_134 : decode b_R_explore 134 = .ok (.aload_n 0, 1) := by decide +kernel
theorem d_R_explore_135 : decode b_R_explore 135 = .ok (.iload 6, 2) := by decide +kernel
theorem d_R_explore_137 : decode b_R_explore 137 = .ok (.iload_n 2, 1) := by decide +kernel
theorem d_R_explore_138 : decode b_R_explore 138 = .ok (.invokevirtual 111, 3) := by decide +kernel
theorem d_R_explore_141 : decode b_R_explore 141 = .ok (.ifCond .ne 6, 3) := by decide +kernel
theorem d_R_explore_144 : decode b_R_explore 144 = .ok (.goto 67, 3) := by decide +kernel
theorem d_R_explore_147 : decode b_R_explore 147 = .ok (.aload_n 0, 1) := by decide +kernel
theorem d_R_explore_148 : decode b_R_explore 148 = .ok (.getfield 47, 3) := by decide +kernel
theorem d_R_explore_151 : decode b_R_explore 151 = .ok (.iload 5, 2) := by decide +kernel
theorem d_R_explore_153 : decode b_R_explore 153 = .ok (.aload_n 0, 1) := by decide +kernel
theorem d_R_explore_154 : decode b_R_explore 154 = .ok (.getfield 47, 3) := by decide +kernel
theorem d_R_explore_157 : decode b_R_explore 157 = .ok (.iload 5, 2) := by decide +kernel
theorem d_R_explore_159 : decode b_R_explore 159 = .ok (.baload, 1) := by decide +kernel
theorem d_R_explore_160 : decode b_R_explore 160 = .ok (.ifCond .eq 17, 3) := by decide +kernel
theorem d_R_explore_163 : decode b_R_explore 163 = .ok (.aload_n 0, 1) := by decide +kernel
theorem d_R_explore_164 : decode b_R_explore 164 = .ok (.getfield 20, 3) := by decide +kernel
theorem d_R_explore_167 : decode b_R_explore 167 = .ok (.iload 7, 2) := by decide +kernel
theorem d_R_explore_169 : decode b_R_explore 169 = .ok (.baload, 1) := by decide +kernel
theorem d_R_explore_170 : decode b_R_explore 170 = .ok (.ifCond .eq 7, 3) := by decide +kernel
theorem d_R_explore_173 : decode b_R_explore 173 = .ok (.iconst 1, 1) := by decide +kernel
theorem d_R_explore_174 : decode b_R_explore 174 = .ok (.goto 4, 3) := by decide +kernel
theorem d_R_explore_177 : decode b_R_explore 177 = .ok (.iconst 0, 1) := by decide +kernel
theorem d_R_explore_178 : decode b_R_explore 178 = .ok (.bastore, 1) := by decide +kernel
theorem d_R_explore_179 : decode b_R_explore 179 = .ok (.aload_n 0, 1) := by decide +kernel
theorem d_R_explore_180 : decode b_R_explore 180 = .ok (.getfield 50, 3) := by decide +kernel
theorem d_R_explore_183 : decode b_R_explore 183 = .ok (.iload 5, 2) := by decide +kernel
theorem d_R_explore_185 : decode b_R_explore 185 = .ok (.aload_n 0, 1) := by decide +kernel
theorem d_R_explore_186 : decode b_R_explore 186 = .ok (.getfield 50, 3) := by decide +kernel
theorem d_R_explore_189 : decode b_R_explore 189 = .ok (.iload 5, 2) := by decide +kernel
theorem d_R_explore_191 : decode b_R_explore 191 = .ok (.baload, 1) := by decide +kernel
theorem d_R_explore_192 : decode b_R_explore 192 = .ok (.ifCond .ne 13, 3) := by decide +kernel
theorem d_R_explore_195 : decode b_R_explore 195 = .ok (.aload_n 0, 1) := by decide +kernel
theorem d_R_explore_196 : decode b_R_explore 196 = .ok (.getfield 23, 3) := by decide +kernel
theorem d_R_explore_199 : decode b_R_explore 199 = .ok (.iload 7, 2) := by decide +kernel
theorem d_R_explore_201 : decode b_R_explore 201 = .ok (.baload, 1) := by decide +kernel
theorem d_R_explore_202 : decode b_R_explore 202 = .ok (.ifCond .eq 7, 3) := by decide +kernel
theorem d_R_explore_205 : decode b_R_explore 205 = .ok (.iconst 1, 1) := by decide +kernel
theorem d_R_explore_206 : decode b_R_explore 206 = .ok (.goto 4, 3) := by decide +kernel
theorem d_R_explore_209 : decode b_R_explore 209 = .ok (.iconst 0, 1) := by decide +kernel
theorem d_R_explore_210 : decode b_R_explore 210 = .ok (.bastore, 1) := by decide +kernel
theorem d_R_explore_211 : decode b_R_explore 211 = .ok (.iinc 6 1, 3) := by decide +kernel
theorem d_R_explore_214 : decode b_R_explore 214 = .ok (.goto (-109), 3) := by decide +kernel
theorem d_R_explore_217 : decode b_R_explore 217 = .ok (.iconst 0, 1) := by decide +kernel
theorem d_R_explore_218 : decode b_R_explore 218 = .ok (.istore 6, 2) := by decide +kernel
theorem d_R_explore_220 : decode b_R_explore 220 = .ok (.iload 6, 2) := by decide +kernel
theorem d_R_explore_222 : decode b_R_explore 222 = .ok (.bipush 12, 2) := by decide +kernel
theorem d_R_explore_224 : decode b_R_explore 224 = .ok (.if_icmp .ge 102, 3) := by decide +kernel
theorem d_R_explore_227 : decode b_R_explore 227 = .ok (.aload_n 0, 1) := by decide +kernel
theorem d_R_explore_228 : decode b_R_explore 228 = .ok (.aload_n 0, 1) := by decide +kernel
theorem d_R_explore_229 : decode b_R_explore 229 = .ok (.getfield 38, 3) := by decide +kernel
theorem d_R_explore_232 : decode b_R_explore 232 = .ok (.iload 5, 2) := by decide +kernel
theorem d_R_explore_234 : decode b_R_explore 234 = .ok (.iaload, 1) := by decide +kernel
theorem d_R_explore_235 : decode b_R_explore 235 = .ok (.iload 6, 2) := by decide +kernel
theorem d_R_explore_237 : decode b_R_explore 237 = .ok (.iload_n 2, 1) := by decide +kernel
theorem d_R_explore_238 : decode b_R_explore 238 = .ok (.invokevirtual 124, 3) := by decide +kernel
theorem d_R_explore_241 : decode b_R_explore 241 = .ok (.istore 7, 2) := by decide +kernel
theorem d_R_explore_243 : decode b_R_explore 243 = .ok (.aload_n 0, 1) := by decide +kernel
theorem d_R_explore_244 : decode b_R_explore 244 = .ok (.getfield 44, 3) := by decide +kernel
theorem d_R_explore_247 : decode b_R_explore 247 = .ok (.bipush 12, 2) := by decide +kernel
theorem d_R_explore_249 : decode b_R_explore 249 = .ok (.iload 5, 2) := by decide +kernel
theorem d_R_explore_251 : decode b_R_explore 251 = .ok (.imul, 1) := by decide +kernel
theorem d_R_explore_252 : decode b_R_explore 252 = .ok (.iload 6, 2) := by decide +kernel
theorem d_R_explore_254 : decode b_R_explore 254 = .ok (.iadd, 1) := by decide +kernel
theorem d_R_explore_255 : decode b_R_explore 255 = .ok (.iload 7, 2) := by decide +kernel
theorem d_R_explore_257 : decode b_R_explore 257 = .ok (.bipush (-2), 2) := by decide +kernel
theorem d_R_explore_259 : decode b_R_explore 259 = .ok (.if_icmp .le 7, 3) := by decide +kernel
theorem d_R_explore_262 : decode b_R_explore 262 = .ok (.iconst 1, 1) := by decide +kernel
theorem d_R_explore_263 : decode b_R_explore 263 = .ok (.goto 4, 3) := by decide +kernel
theorem d_R_explore_266 : decode b_R_explore 266 = .ok (.iconst 0, 1) := by decide +kernel
theorem d_R_explore_267 : decode b_R_explore 267 = .ok (.bastore, 1) := by decide +kernel
theorem d_R_explore_268 : decode b_R_explore 268 = .ok (.aload_n 0, 1) := by decide +kernel
theorem d_R_explore_269 : decode b_R_explore 269 = .ok (.getfield 41, 3) := by decide +kernel
theorem d_R_explore_272 : decode b_R_explore 272 = .ok (.bipush 12, 2) := by decide +kernel
theorem d_R_explore_274 : decode b_R_explore 274 = .ok (.iload 5, 2) := by decide +kernel
theorem d_R_explore_276 : decode b_R_explore 276 = .ok (.imul, 1) := by decide +kernel
theorem d_R_explore_277 : decode b_R_explore 277 = .ok (.iload 6, 2) := by decide +kernel
theorem d_R_explore_279 : decode b_R_explore 279 = .ok (.iadd, 1) := by decide +kernel
theorem d_R_explore_280 : decode b_R_explore 280 = .ok (.iload 7, 2) := by decide +kernel
theorem d_R_explore_282 : decode b_R_explore 282 = .ok (.ifCond .ge 7, 3) := by decide +kernel
theorem d_R_explore_285 : decode b_R_explore 285 = .ok (.iconst (-1), 1) := by decide +kernel
theorem d_R_explore_286 : decode b_R_explore 286 = .ok (.goto 10, 3) := by decide +kernel
theorem d_R_explore_289 : decode b_R_explore 289 = .ok (.aload_n 0, 1) := by decide +kernel
theorem d_R_explore_290 : decode b_R_explore 290 = .ok (.iload_n 1, 1) := by decide +kernel
theorem d_R_explore_291 : decode b_R_explore 291 = .ok (.iload 7, 2) := by decide +kernel
theorem d_R_explore_293 : decode b_R_explore 293 = .ok (.invokevirtual 121, 3) := by decide +kernel
theorem d_R_explore_296 : decode b_R_explore 296 = .ok (.iastore, 1) := by decide +kernel
theorem d_R_explore_297 : decode b_R_explore 297 = .ok (.iload 7, 2) := by decide +kernel
theorem d_R_explore_299 : decode b_R_explore 299 = .ok (.ifCond .lt 21, 3) := by decide +kernel
theorem d_R_explore_302 : decode b_R_explore 302 = .ok (.aload_n 0, 1) := by decide +kernel
theorem d_R_explore_303 : decode b_R_explore 303 = .ok (.getfield 41, 3) := by decide +kernel
theorem d_R_explore_306 : decode b_R_explore 306 = .ok (.bipush 12, 2) := by decide +kernel
theorem d_R_explore_308 : decode b_R_explore 308 = .ok (.iload 5, 2) := by decide +kernel
theorem d_R_explore_310 : decode b_R_explore 310 = .ok (.imul, 1) := by decide +kernel
theorem d_R_explore_311 : decode b_R_explore 311 = .ok (.iload 6, 2) := by decide +kernel
theorem d_R_explore_313 : decode b_R_explore 313 = .ok (.iadd, 1) := by decide +kernel
theorem d_R_explore_314 : decode b_R_explore 314 = .ok (.iaload, 1) := by decide +kernel
theorem d_R_explore_315 : decode b_R_explore 315 = .ok (.ifCond .ge 5, 3) := by decide +kernel
theorem d_R_explore_318 : decode b_R_explore 318 = .ok (.iconst 0, 1) := by decide +kernel
theorem d_R_explore_319 : decode b_R_explore 319 = .ok (.ireturn, 1) := by decide +kernel
theorem d_R_explore_320 : decode b_R_explore 320 = .ok (.iinc 6 1, 3) := by decide +kernel
theorem d_R_explore_323 : decode b_R_explore 323 = .ok (.goto (-103), 3) := by decide +kernel
theorem d_R_explore_326 : decode b_R_explore 326 = .ok (.iinc 4 1, 3) := by decide +kernel
theorem d_R_explore_329 : decode b_R_explore 329 = .ok (.goto (-264), 3) := by decide +kernel
theorem d_R_explore_332 : decode b_R_explore 332 = .ok (.iconst 1, 1) := by decide +kernel
theorem d_R_explore_333 : decode b_R_explore 333 = .ok (.ireturn, 1) := by decide +kernel
theorem d_R_good_0 : decode b_R_good 0 = .ok (.aload_n 0, 1) := by decide +kernel
theorem d_R_good_1 : decode b_R_good 1 = .ok (.getfield 41, 3) := by decide +kernel
theorem d_R_good_4 : decode b_R_good 4 = .ok (.bipush 12, 2) := by decide +kernel
theorem d_R_good_6 : decode b_R_good 6 = .ok (.sipush 200, 3) := by decide +kernel
theorem d_R_good_9 : decode b_R_good 9 = .ok (.iload_n 1, 1) := by decide +kernel
theorem d_R_good_10 : decode b_R_good 10 = .ok (.imul, 1) := by decide +kernel
theorem d_R_good_11 : decode b_R_good 11 = .ok (.iload_n 2, 1) := by decide +kernel
theorem d_R_good_12 : decode b_R_good 12 = .ok (.iadd, 1) := by decide +kernel
theorem d_R_good_13 : decode b_R_good 13 = .ok (.imul, 1) := by decide +kernel
theorem d_R_good_14 : decode b_R_good 14 = .ok (.iload_n 3, 1) := by decide +kernel
theorem d_R_good_15 : decode b_R_good 15 = .ok (.iadd, 1) := by decide +kernel
theorem d_R_good_16 : decode b_R_good 16 = .ok (.iaload, 1) := by decide +kernel
theorem d_R_good_17 : decode b_R_good 17 = .ok (.istore 4, 2) := by decide +kernel
theorem d_R_good_19 : decode b_R_good 19 = .ok (.iload 4, 2) := by decide +kernel
theorem d_R_good_21 : decode b_R_good 21 = .ok (.ifCond .lt 19, 3) := by decide +kernel
theorem d_R_good_24 : decode b_R_good 24 = .ok (.aload_n 0, 1) := by decide +kernel
theorem d_R_good_25 : decode b_R_good 25 = .ok (.getfield 50, 3) := by decide +kernel
theorem d_R_good_28 : decode b_R_good 28 = .ok (.sipush 200, 3) := by decide +kernel
theorem d_R_good_31 : decode b_R_good 31 = .ok (.iload_n 1, 1) := by decide +kernel
theorem d_R_good_32 : decode b_R_good 32 = .ok (.imul, 1) := by decide +kernel
theorem d_R_good_33 : decode b_R_good 33 = .ok (.iload 4, 2) := by decide +kernel
theorem d_R_good_35 : decode b_R_good 35 = .ok (.iadd, 1) := by decide +kernel
theorem d_R_good_36 : decode b_R_good 36 = .ok (.baload, 1) := by decide +kernel
theorem d_R_good_37 : decode b_R_good 37 = .ok (.ifCond .eq 7, 3) := by decide +kernel
theorem d_R_good_40 : decode b_R_good 40 = .ok (.iconst (-1), 1) := by decide +kernel
theorem d_R_good_41 : decode b_R_good 41 = .ok (.goto 5, 3) := by decide +kernel
theorem d_R_good_44 : decode b_R_good 44 = .ok (.iload 4, 2) := by decide +kernel
theorem d_R_good_46 : decode b_R_good 46 = .ok (.ireturn, 1) := by decide +kernel
theorem d_R_has_0 : decode b_R_has 0 = .ok (.iconst 0, 1) := by decide +kernel
theorem d_R_has_1 : decode b_R_has 1 = .ok (.istore_n 3, 1) := by decide +kernel
theorem d_R_has_2 : decode b_R_has 2 = .ok (.iconst 0, 1) := by decide +kernel
theorem d_R_has_3 : decode b_R_has 3 = .ok (.istore 4, 2) := by decide +kernel
theorem d_R_has_5 : decode b_R_has 5 = .ok (.iload 4, 2) := by decide +kernel
theorem d_R_has_7 : decode b_R_has 7 = .ok (.aload_n 0, 1) := by decide +kernel
theorem d_R_has_8 : decode b_R_has 8 = .ok (.getfield 7, 3) := by decide +kernel
theorem d_R_has_11 : decode b_R_has 11 = .ok (.iload_n 1, 1) := by decide +kernel
theorem d_R_has_12 : decode b_R_has 12 = .ok (.iaload, 1) := by decide +kernel
theorem d_R_has_13 : decode b_R_has 13 = .ok (.if_icmp .ge 39, 3) := by decide +kernel
theorem d_R_has_16 : decode b_R_has 16 = .ok (.iload_n 3, 1) := by decide +kernel
theorem d_R_has_17 : decode b_R_has 17 = .ok (.ifCond .ne 23, 3) := by decide +kernel
theorem d_R_has_20 : decode b_R_has 20 = .ok (.aload_n 0, 1) := by decide +kernel
theorem d_R_has_21 : decode b_R_has 21 = .ok (.getfield 26, 3) := by decide +kernel
theorem d_R_has_24 : decode b_R_has 24 = .ok (.bipush 72, 2) := by decide +kernel
theorem d_R_has_26 : decode b_R_has 26 = .ok (.iload_n 1, 1) := by decide +kernel
theorem d_R_has_27 : decode b_R_has 27 = .ok (.imul, 1) := by decide +kernel
theorem d_R_has_28 : decode b_R_has 28 = .ok (.bipush 12, 2) := by decide +kernel
theorem d_R_has_30 : decode b_R_has 30 = .ok (.iload 4, 2) := by decide +kernel
theorem d_R_has_32 : decode b_R_has 32 = .ok (.imul, 1) := by decide +kernel
theorem d_R_has_33 : decode b_R_has 33 = .ok (.iadd, 1) := by decide +kernel
theorem d_R_has_34 : decode b_R_has 34 = .ok (.iload_n 2, 1) := by decide +kernel
theorem d_R_has_35 : decode b_R_has 35 = .ok (.iadd, 1) := by decide +kernel
theorem d_R_has_36 : decode b_R_has 36 = .ok (.iaload, 1) := by decide +kernel
theorem d_R_has_37 : decode b_R_has 37 = .ok (.ifCond .lt 7, 3) := by decide +kernel
theorem d_R_has_40 : decode b_R_has 40 = .ok (.iconst 1, 1) := by decide +kernel
theorem d_R_has_41 : decode b_R_has 41 = .ok (.goto 4, 3) := by decide +kernel
theorem d_R_has_44 : decode b_R_has 44 = .ok (.iconst 0, 1) := by decide +kernel
theorem d_R_has_45 : decode b_R_has 45 = .ok (.istore_n 3, 1) := by decide +kernel
theorem d_R_has_46 : decode b_R_has 46 = .ok (.iinc 4 1, 3) := by decide +kernel
theorem d_R_has_49 : decode b_R_has 49 = .ok (.goto (-44), 3) := by decide +kernel
theorem d_R_has_52 : decode b_R_has 52 = .ok (.iload_n 3, 1) := by decide +kernel
theorem d_R_has_53 : decode b_R_has 53 = .ok (.ireturn, 1) := by decide +kernel
theorem d_R_here_0 : decode b_R_here 0 = .ok (.aload_n 0, 1) := by decide +kernel
theorem d_R_here_1 : decode b_R_here 1 = .ok (.aload_n 0, 1) := by decide +kernel
theorem d_R_here_2 : decode b_R_here 2 = .ok (.getfield 91, 3) := by decide +kernel
theorem d_R_here_5 : decode b_R_here 5 = .ok (.ifCond .ne 7, 3) := by decide +kernel
theorem d_R_here_8 : decode b_R_here 8 = .ok (.iconst 1, 1) := by decide +kernel
theorem d_R_here_9 : decode b_R_here 9 = .ok (.goto 4, 3) := by decide +kernel
theorem d_R_here_12 : decode b_R_here 12 = .ok (.iconst 0, 1) := by decide +kernel
theorem d_R_here_13 : decode b_R_here 13 = .ok (.iconst 0, 1) := by decide +kernel
theorem d_R_here_14 : decode b_R_here 14 = .ok (.invokevirtual 101, 3) := by decide +kernel
theorem d_R_here_17 : decode b_R_here 17 = .ok (.ifCond .eq 7, 3) := by decide +kernel
theorem d_R_here_20 : decode b_R_here 20 = .ok (.iconst 0, 1) := by decide +kernel
theorem d_R_here_21 : decode b_R_here 21 = .ok (.goto 12, 3) := by decide +kernel
theorem d_R_here_24 : decode b_R_here 24 = .ok (.aload_n 0, 1) := by decide +kernel
theorem d_R_here_25 : decode b_R_here 25 = .ok (.getfield 59, 3) := by decide +kernel
theorem d_R_here_28 : decode b_R_here 28 = .ok (.aload_n 0, 1) := by decide +kernel
theorem d_R_here_29 : decode b_R_here 29 = .ok (.getfield 151, 3) := by decide +kernel
theorem d_R_here_32 : decode b_R_here 32 = .ok (.iaload, 1) := by decide +kernel
theorem d_R_here_33 : decode b_R_here 33 = .ok (.ireturn, 1) := by decide +kernel
theorem d_R_home_0 : decode b_R_home 0 = .ok (.aload_n 0, 1) := by decide +kernel
theorem d_R_home_1 : decode b_R_home 1 = .ok (.aload_n 0, 1) := by decide +kernel
theorem d_R_home_2 : decode b_R_home 2 = .ok (.getfield 91, 3) := by decide +kernel
theorem d_R_home_5 : decode b_R_home 5 = .ok (.ifCond .ne 7, 3) := by decide +kernel
theorem d_R_home_8 : decode b_R_home 8 = .ok (.iconst 1, 1) := by decide +kernel
theorem d_R_home_9 : decode b_R_home 9 = .ok (.goto 4, 3) := by decide +kernel
theorem d_R_home_12 : decode b_R_home 12 = .ok (.iconst 0, 1) := by decide +kernel
theorem d_R_home_13 : decode b_R_home 13 = .ok (.iconst 0, 1) := by decide +kernel
theorem d_R_home_14 : decode b_R_home 14 = .ok (.invokevirtual 101, 3) := by decide +kernel
theorem d_R_home_17 : decode b_R_home 17 = .ok (.ifCond .eq 7, 3) := by decide +kernel
theorem d_R_home_20 : decode b_R_home 20 = .ok (.iconst 0, 1) := by decide +kernel
theorem d_R_home_21 : decode b_R_home 21 = .ok (.goto 12, 3) := by decide +kernel
theorem d_R_home_24 : decode b_R_home 24 = .ok (.aload_n 0, 1) := by decide +kernel
theorem d_R_home_25 : decode b_R_home 25 = .ok (.aload_n 0, 1) := by decide +kernel
theorem d_R_home_26 : decode b_R_home 26 = .ok (.getfield 151, 3) := by decide +kernel
theorem d_R_home_29 : decode b_R_home 29 = .ok (.iconst 0, 1) := by decide +kernel
theorem d_R_home_30 : decode b_R_home 30 = .ok (.invokevirtual 154, 3) := by decide +kernel
theorem d_R_home_33 : decode b_R_home 33 = .ok (.ireturn, 1) := by decide +kernel
theorem d_R_init_0 : decode b_R_init 0 = .ok (.aload_n 0, 1) := by decide +kernel
theorem d_R_init_1 : decode b_R_init 1 = .ok (.invokespecial 1, 3) := by decide +kernel
theorem d_R_init_4 : decode b_R_init 4 = .ok (.aload_n 0, 1) := by decide +kernel
theorem d_R_init_5 : decode b_R_init 5 = .ok (.iconst 4, 1) := by decide +kernel
theorem d_R_init_6 : decode b_R_init 6 = .ok (.newarray .int, 2) := by decide +kernel
theorem d_R_init_8 : decode b_R_init 8 = .ok (.putfield 7, 3) := by decide +kernel
theorem d_R_init_11 : decode b_R_init 11 = .ok (.aload_n 0, 1) := by decide +kernel
theorem d_R_init_12 : decode b_R_init 12 = .ok (.iconst 4, 1) := by decide +kernel
theorem d_R_init_13 : decode b_R_init 13 = .ok (.newarray .boolean, 2) := by decide +kernel
theorem d_R_init_15 : decode b_R_init 15 = .ok (.putfield 13, 3) := by decide +kernel
theorem d_R_init_18 : decode b_R_init 18 = .ok (.aload_n 0, 1) := by decide +kernel
theorem d_R_init_19 : decode b_R_init 19 = .ok (.iconst 4, 1) := by decide +kernel
theorem d_R_init_20 : decode b_R_init 20 = .ok (.newarray .int, 2) := by decide +kernel
theorem d_R_init_22 : decode b_R_init 22 = .ok (.putfield 17, 3) := by decide +kernel
theorem d_R_init_25 : decode b_R_init 25 = .ok (.aload_n 0, 1) := by decide +kernel
theorem d_R_init_26 : decode b_R_init 26 = .ok (.bipush 24, 2) := by decide +kernel
theorem d_R_init_28 : decode b_R_init 28 = .ok (.newarray .boolean, 2) := by decide +kernel
theorem d_R_init_30 : decode b_R_init 30 = .ok (.putfield 20, 3) := by decide +kernel
theorem d_R_init_33 : decode b_R_init 33 = .ok (.aload_n 0, 1) := by decide +kernel
theorem d_R_init_34 : decode b_R_init 34 = .ok (.bipush 24, 2) := by decide +kernel
theorem d_R_init_36 : decode b_R_init 36 = .ok (.newarray .boolean, 2) := by decide +kernel
theorem d_R_init_38 : decode b_R_init 38 = .ok (.putfield 23, 3) := by decide +kernel
theorem d_R_init_41 : decode b_R_init 41 = .ok (.aload_n 0, 1) := by decide +kernel
theorem d_R_init_42 : decode b_R_init 42 = .ok (.sipush 288, 3) := by decide +kernel
theorem d_R_init_45 : decode b_R_init 45 = .ok (.newarray .int, 2) := by decide +kernel
theorem d_R_init_47 : decode b_R_init 47 = .ok (.putfield 26, 3) := by decide +kernel
theorem d_R_init_50 : decode b_R_init 50 = .ok (.aload_n 0, 1) := by decide +kernel
theorem d_R_init_51 : decode b_R_init 51 = .ok (.bipush 12, 2) := by decide +kernel
theorem d_R_init_53 : decode b_R_init 53 = .ok (.newarray .boolean, 2) := by decide +kernel
theorem d_R_init_55 : decode b_R_init 55 = .ok (.putfield 29, 3) := by decide +kernel
theorem d_R_init_58 : decode b_R_init 58 = .ok (.aload_n 0, 1) := by decide +kernel
theorem d_R_init_59 : decode b_R_init 59 = .ok (.bipush 12, 2) := by decide +kernel
theorem d_R_init_61 : decode b_R_init 61 = .ok (.newarray .boolean, 2) := by decide +kernel
theorem d_R_init_63 : decode b_R_init 63 = .ok (.putfield 32, 3) := by decide +kernel
theorem d_R_init_66 : decode b_R_init 66 = .ok (.aload_n 0, 1) := by decide +kernel
theorem d_R_init_67 : decode b_R_init 67 = .ok (.iconst 3, 1) := by decide +kernel
theorem d_R_init_68 : decode b_R_init 68 = .ok (.newarray .int, 2) := by decide +kernel
theorem d_R_init_70 : decode b_R_init 70 = .ok (.putfield 35, 3) := by decide +kernel
theorem d_R_init_73 : decode b_R_init 73 = .ok (.aload_n 0, 1) := by decide +kernel
theorem d_R_init_74 : decode b_R_init 74 = .ok (.sipush 600, 3) := by decide +kernel
theorem d_R_init_77 : decode b_R_init 77 = .ok (.newarray .int, 2) := by decide +kernel
theorem d_R_init_79 : decode b_R_init 79 = .ok (.putfield 38, 3) := by decide +kernel
theorem d_R_init_82 : decode b_R_init 82 = .ok (.aload_n 0, 1) := by decide +kernel
theorem d_R_init_83 : decode b_R_init 83 = .ok (.sipush 7200, 3) := by decide +kernel
theorem d_R_init_86 : decode b_R_init 86 = .ok (.newarray .int, 2) := by decide +kernel
theorem d_R_init_88 : decode b_R_init 88 = .ok (.putfield 41, 3) := by decide +kernel
theorem d_R_init_91 : decode b_R_init 91 = .ok (.aload_n 0, 1) := by decide +kernel
theorem d_R_init_92 : decode b_R_init 92 = .ok (.sipush 7200, 3) := by decide +kernel
theorem d_R_init_95 : decode b_R_init 95 = .ok (.newarray .boolean, 2) := by decide +kernel
theorem d_R_init_97 : decode b_R_init 97 = .ok (.putfield 44, 3) := by decide +kernel
theorem d_R_init_100 : decode b_R_init 100 = .ok (.aload_n 0, 1) := by decide +kernel
theorem d_R_init_101 : decode b_R_init 101 = .ok (.sipush 600, 3) := by decide +kernel
theorem d_R_init_104 : decode b_R_init 104 = .ok (.newarray .boolean, 2) := by decide +kernel
theorem d_R_init_106 : decode b_R_init 106 = .ok (.putfield 47, 3) := by decide +kernel
theorem d_R_init_109 : decode b_R_init 109 = .ok (.aload_n 0, 1) := by decide +kernel
theorem d_R_init_110 : decode b_R_init 110 = .ok (.sipush 600, 3) := by decide +kernel
theorem d_R_init_113 : decode b_R_init 113 = .ok (.newarray .boolean, 2) := by decide +kernel
theorem d_R_init_115 : decode b_R_init 115 = .ok (.putfield 50, 3) := by decide +kernel
theorem d_R_init_118 : decode b_R_init 118 = .ok (.aload_n 0, 1) := by decide +kernel
theorem d_R_init_119 : decode b_R_init 119 = .ok (.sipush 600, 3) := by decide +kernel
theorem d_R_init_122 : decode b_R_init 122 = .ok (.newarray .boolean, 2) := by decide +kernel
theorem d_R_init_124 : decode b_R_init 124 = .ok (.putfield 53, 3) := by decide +kernel
theorem d_R_init_127 : decode b_R_init 127 = .ok (.aload_n 0, 1) := by decide +kernel
theorem d_R_init_128 : decode b_R_init 128 = .ok (.sipush 200, 3) := by decide +kernel
theorem d_R_init_131 : decode b_R_init 131 = .ok (.newarray .int, 2) := by decide +kernel
theorem d_R_init_133 : decode b_R_init 133 = .ok (.putfield 56, 3) := by decide +kernel
theorem d_R_init_136 : decode b_R_init 136 = .ok (.aload_n 0, 1) := by decide +kernel
theorem d_R_init_137 : decode b_R_init 137 = .ok (.sipush 200, 3) := by decide +kernel
theorem d_R_init_140 : decode b_R_init 140 = .ok (.newarray .int, 2) := by decide +kernel
theorem d_R_init_142 : decode b_R_init 142 = .ok (.putfield 59, 3) := by decide +kernel
theorem d_R_init_145 : decode b_R_init 145 = .ok (.aload_n 0, 1) := by decide +kernel
theorem d_R_init_146 : decode b_R_init 146 = .ok (.sipush 200, 3) := by decide +kernel
theorem d_R_init_149 : decode b_R_init 149 = .ok (.newarray .int, 2) := by decide +kernel
theorem d_R_init_151 : decode b_R_init 151 = .ok (.putfield 62, 3) := by decide +kernel
theorem d_R_init_154 : decode b_R_init 154 = .ok (.aload_n 0, 1) := by decide +kernel
theorem d_R_init_155 : decode b_R_init 155 = .ok (.sipush 200, 3) := by decide +kernel
theorem d_R_init_158 : decode b_R_init 158 = .ok (.newarray .int, 2) := by decide +kernel
theorem d_R_init_160 : decode b_R_init 160 = .ok (.putfield 65, 3) := by decide +kernel
theorem d_R_init_163 : decode b_R_init 163 = .ok (.aload_n 0, 1) := by decide +kernel
theorem d_R_init_164 : decode b_R_init 164 = .ok (.sipush 200, 3) := by decide +kernel
theorem d_R_init_167 : decode b_R_init 167 = .ok (.newarray .int, 2) := by decide +kernel
theorem d_R_init_169 : decode b_R_init 169 = .ok (.putfield 68, 3) := by decide +kernel
theorem d_R_init_172 : decode b_R_init 172 = .ok (.aload_n 0, 1) := by decide +kernel
theorem d_R_init_173 : decode b_R_init 173 = .ok (.sipush 200, 3) := by decide +kernel
theorem d_R_init_176 : decode b_R_init 176 = .ok (.newarray .int, 2) := by decide +kernel
theorem d_R_init_178 : decode b_R_init 178 = .ok (.putfield 71, 3) := by decide +kernel
theorem d_R_init_181 : decode b_R_init 181 = .ok (.aload_n 0, 1) := by decide +kernel
theorem d_R_init_182 : decode b_R_init 182 = .ok (.sipush 200, 3) := by decide +kernel
theorem d_R_init_185 : decode b_R_init 185 = .ok (.newarray .int, 2) := by decide +kernel
theorem d_R_init_187 : decode b_R_init 187 = .ok (.putfield 74, 3) := by decide +kernel
theorem d_R_init_190 : decode b_R_init 190 = .ok (.aload_n 0, 1) := by decide +kernel
theorem d_R_init_191 : decode b_R_init 191 = .ok (.sipush 200, 3) := by decide +kernel
theorem d_R_init_194 : decode b_R_init 194 = .ok (.newarray .int, 2) := by decide +kernel
theorem d_R_init_196 : decode b_R_init 196 = .ok (.putfield 77, 3) := by decide +kernel
theorem d_R_init_199 : decode b_R_init 199 = .ok (.aload_n 0, 1) := by decide +kernel
theorem d_R_init_200 : decode b_R_init 200 = .ok (.sipush 200, 3) := by decide +kernel
theorem d_R_init_203 : decode b_R_init 203 = .ok (.newarray .int, 2) := by decide +kernel
theorem d_R_init_205 : decode b_R_init 205 = .ok (.putfield 80, 3) := by decide +kernel
theorem d_R_init_208 : decode b_R_init 208 = .ok (.iconst 0, 1) := by decide +kernel
theorem d_R_init_209 : decode b_R_init 209 = .ok (.istore_n 1, 1) := by decide +kernel
theorem d_R_init_210 : decode b_R_init 210 = .ok (.iload_n 1, 1) := by decide +kernel
theorem d_R_init_211 : decode b_R_init 211 = .ok (.sipush 288, 3) := by decide +kernel
theorem d_R_init_214 : decode b_R_init 214 = .ok (.if_icmp .ge 16, 3) := by decide +kernel
theorem d_R_init_217 : decode b_R_init 217 = .ok (.aload_n 0, 1) := by decide +kernel
theorem d_R_init_218 : decode b_R_init 218 = .ok (.getfield 26, 3) := by decide +kernel
theorem d_R_init_221 : decode b_R_init 221 = .ok (.iload_n 1, 1) := by decide +kernel
theorem d_R_init_222 : decode b_R_init 222 = .ok (.iconst (-1), 1) := by decide +kernel
theorem d_R_init_223 : decode b_R_init 223 = .ok (.iastore, 1) := by decide +kernel
theorem d_R_init_224 : decode b_R_init 224 = .ok (.iinc 1 1, 3) := by decide +kernel
theorem d_R_init_227 : decode b_R_init 227 = .ok (.goto (-17), 3) := by decide +kernel
theorem d_R_init_230 : decode b_R_init 230 = .ok (.return_, 1) := by decide +kernel
theorem d_R_isModel_0 : decode b_R_isModel 0 = .ok (.iconst 0, 1) := by decide +kernel
theorem d_R_isModel_1 : decode b_R_isModel 1 = .ok (.istore_n 2, 1) := by decide +kernel
theorem d_R_isModel_2 : decode b_R_isModel 2 = .ok (.iconst 1, 1) := by decide +kernel
theorem d_R_isModel_3 : decode b_R_isModel 3 = .ok (.istore_n 3, 1) := by decide +kernel
theorem d_R_isModel_4 : decode b_R_isModel 4 = .ok (.iconst 0, 1) := by decide +kernel
theorem d_R_isModel_5 : decode b_R_isModel 5 = .ok (.istore 4, 2) := by decide +kernel
theorem d_R_isModel_7 : decode b_R_isModel 7 = .ok (.iload 4, 2) := by decide +kernel
theorem d_R_isModel_9 : decode b_R_isModel 9 = .ok (.aload_n 0, 1) := by decide +kernel
theorem d_R_isModel_10 : decode b_R_isModel 10 = .ok (.getfield 98, 3) := by decide +kernel
theorem d_R_isModel_13 : decode b_R_isModel 13 = .ok (.if_icmp .ge 59, 3) := by decide +kernel
theorem d_R_isModel_16 : decode b_R_isModel 16 = .ok (.iload_n 2, 1) := by decide +kernel
theorem d_R_isModel_17 : decode b_R_isModel 17 = .ok (.ifCond .ne 13, 3) := by decide +kernel
theorem d_R_isModel_20 : decode b_R_isModel 20 = .ok (.aload_n 0, 1) := by decide +kernel
theorem d_R_isModel_21 : decode b_R_isModel 21 = .ok (.getfield 13, 3) := by decide +kernel
theorem d_R_isModel_24 : decode b_R_isModel 24 = .ok (.iload 4, 2) := by decide +kernel
theorem d_R_isModel_26 : decode b_R_isModel 26 = .ok (.baload, 1) := by decide +kernel
theorem d_R_isModel_27 : decode b_R_isModel 27 = .ok (.ifCond .eq 7, 3) := by decide +kernel
theorem d_R_isModel_30 : decode b_R_isModel 30 = .ok (.iconst 1, 1) := by decide +kernel
theorem d_R_isModel_31 : decode b_R_isModel 31 = .ok (.goto 4, 3) := by decide +kernel
theorem d_R_isModel_34 : decode b_R_isModel 34 = .ok (.iconst 0, 1) := by decide +kernel
theorem d_R_isModel_35 : decode b_R_isModel 35 = .ok (.istore_n 2, 1) := by decide +kernel
theorem d_R_isModel_36 : decode b_R_isModel 36 = .ok (.iload_n 3, 1) := by decide +kernel
theorem d_R_isModel_37 : decode b_R_isModel 37 = .ok (.ifCond .eq 27, 3) := by decide +kernel
theorem d_R_isModel_40 : decode b_R_isModel 40 = .ok (.aload_n 0, 1) := by decide +kernel
theorem d_R_isModel_41 : decode b_R_isModel 41 = .ok (.iload 4, 2) := by decide +kernel
theorem d_R_isModel_43 : decode b_R_isModel 43 = .ok (.iload_n 1, 1) := by decide +kernel
theorem d_R_isModel_44 : decode b_R_isModel 44 = .ok (.invokevirtual 111, 3) := by decide +kernel
theorem d_R_isModel_47 : decode b_R_isModel 47 = .ok (.ifCond .eq 13, 3) := by decide +kernel
theorem d_R_isModel_50 : decode b_R_isModel 50 = .ok (.aload_n 0, 1) := by decide +kernel
theorem d_R_isModel_51 : decode b_R_isModel 51 = .ok (.getfield 17, 3) := by decide +kernel
theorem d_R_isModel_54 : decode b_R_isModel 54 = .ok (.iload 4, 2) := by decide +kernel
theorem d_R_isModel_56 : decode b_R_isModel 56 = .ok (.iaload, 1) := by decide +kernel
theorem d_R_isModel_57 : decode b_R_isModel 57 = .ok (.ifCond .lt 7, 3) := by decide +kernel
theorem d_R_isModel_60 : decode b_R_isModel 60 = .ok (.iconst 1, 1) := by decide +kernel
theorem d_R_isModel_61 : decode b_R_isModel 61 = .ok (.goto 4, 3) := by decide +kernel
theorem d_R_isModel_64 : decode b_R_isModel 64 = .ok (.iconst 0, 1) := by decide +kernel
theorem d_R_isModel_65 : decode b_R_isModel 65 = .ok (.istore_n 3, 1) := by decide +kernel
theorem d_R_isModel_66 : decode b_R_isModel 66 = .ok (.iinc 4 1, 3) := by decide +kernel
theorem d_R_isModel_69 : decode b_R_isModel 69 = .ok (.goto (-62), 3) := by decide +kernel
theorem d_R_isModel_72 : decode b_R_isModel 72 = .ok (.iload_n 2, 1) := by decide +kernel
theorem d_R_isModel_73 : decode b_R_isModel 73 = .ok (.ifCond .eq 11, 3) := by decide +kernel
theorem d_R_isModel_76 : decode b_R_isModel 76 = .ok (.iload_n 3, 1) := by decide +kernel
theorem d_R_isModel_77 : decode b_R_isModel 77 = .ok (.ifCond .eq 7, 3) := by decide +kernel
theorem d_R_isModel_80 : decode b_R_isModel 80 = .ok (.iconst 1, 1) := by decide +kernel
theorem d_R_isModel_81 : decode b_R_isModel 81 = .ok (.goto 4, 3) := by decide +kernel
theorem d_R_isModel_84 : decode b_R_isModel 84 = .ok (.iconst 0, 1) := by decide +kernel
theorem d_R_isModel_85 : decode b_R_isModel 85 = .ok (.ireturn, 1) := by decide +kernel
theorem d_R_isNoState_0 : decode b_R_isNoState 0 = .ok (.iload_n 1, 1) := by decide +kernel
theorem d_R_isNoState_1 : decode b_R_isNoState 1 = .ok (.aload_n 0, 1) := by decide +kernel
theorem d_R_isNoState_2 : decode b_R_isNoState 2 = .ok (.getfield 98, 3) := by decide +kernel
theorem d_R_isNoState_5 : decode b_R_isNoState 5 = .ok (.invokestatic 94, 3) := by decide +kernel
theorem d_R_isNoState_8 : decode b_R_isNoState 8 = .ok (.ifCond .ne 16, 3) := by decide +kernel
theorem d_R_isNoState_11 : decode b_R_isNoState 11 = .ok (.iload_n 2, 1) := by decide +kernel
theorem d_R_isNoState_12 : decode b_R_isNoState 12 = .ok (.aload_n 0, 1) := by decide +kernel
theorem d_R_isNoState_13 : decode b_R_isNoState 13 = .ok (.getfield 7, 3) := by decide +kernel
theorem d_R_isNoState_16 : decode b_R_isNoState 16 = .ok (.iload_n 1, 1) := by decide +kernel
theorem d_R_isNoState_17 : decode b_R_isNoState 17 = .ok (.iaload, 1) := by decide +kernel
theorem d_R_isNoState_18 : decode b_R_isNoState 18 = .ok (.invokestatic 94, 3) := by decide +kernel
theorem d_R_isNoState_21 : decode b_R_isNoState 21 = .ok (.ifCond .eq 7, 3) := by decide +kernel
theorem d_R_isNoState_24 : decode b_R_isNoState 24 = .ok (.iconst 1, 1) := by decide +kernel
theorem d_R_isNoState_25 : decode b_R_isNoState 25 = .ok (.goto 4, 3) := by decide +kernel
theorem d_R_isNoState_28 : decode b_R_isNoState 28 = .ok (.iconst 0, 1) := by decide +kernel
theorem d_R_isNoState_29 : decode b_R_isNoState 29 = .ok (.ireturn, 1) := by decide +kernel
theorem d_R_isRule_0 : decode b_R_isRule 0 = .ok (.iload_n 1, 1) := by decide +kernel
theorem d_R_isRule_1 : decode b_R_isRule 1 = .ok (.aload_n 0, 1) := by decide +kernel
theorem d_R_isRule_2 : decode b_R_isRule 2 = .ok (.getfield 98, 3) := by decide +kernel
theorem d_R_isRule_5 : decode b_R_isRule 5 = .ok (.invokestatic 94, 3) := by decide +kernel
theorem d_R_isRule_8 : decode b_R_isRule 8 = .ok (.ifCond .ne 16, 3) := by decide +kernel
theorem d_R_isRule_11 : decode b_R_isRule 11 = .ok (.aload_n 0, 1) := by decide +kernel
theorem d_R_isRule_12 : decode b_R_isRule 12 = .ok (.getfield 13, 3) := by decide +kernel
theorem d_R_isRule_15 : decode b_R_isRule 15 = .ok (.iload_n 1, 1) := by decide +kernel
theorem d_R_isRule_16 : decode b_R_isRule 16 = .ok (.baload, 1) := by decide +kernel
theorem d_R_isRule_17 : decode b_R_isRule 17 = .ok (.ifCond .ne 7, 3) := by decide +kernel
theorem d_R_isRule_20 : decode b_R_isRule 20 = .ok (.iconst 1, 1) := by decide +kernel
theorem d_R_isRule_21 : decode b_R_isRule 21 = .ok (.goto 4, 3) := by decide +kernel
theorem d_R_isRule_24 : decode b_R_isRule 24 = .ok (.iconst 0, 1) := by decide +kernel
theorem d_R_isRule_25 : decode b_R_isRule 25 = .ok (.ireturn, 1) := by decide +kernel
theorem d_R_isThere_0 : decode b_R_isThere 0 = .ok (.aload_n 0, 1) := by decide +kernel
theorem d_R_isThere_1 : decode b_R_isThere 1 = .ok (.iload_n 2, 1) := by decide +kernel
theorem d_R_isThere_2 : decode b_R_isThere 2 = .ok (.invokevirtual 138, 3) := by decide +kernel
theorem d_R_isThere_5 : decode b_R_isThere 5 = .ok (.ifCond .eq 12, 3) := by decide +kernel
theorem d_R_isThere_8 : decode b_R_isThere 8 = .ok (.aload_n 0, 1) := by decide +kernel
theorem d_R_isThere_9 : decode b_R_isThere 9 = .ok (.iload_n 1, 1) := by decide +kernel
theorem d_R_isThere_10 : decode b_R_isThere 10 = .ok (.iload_n 2, 1) := by decide +kernel
theorem d_R_isThere_11 : decode b_R_isThere 11 = .ok (.invokevirtual 141, 3) := by decide +kernel
theorem d_R_isThere_14 : decode b_R_isThere 14 = .ok (.ifCond .ne 5, 3) := by decide +kernel
theorem d_R_isThere_17 : decode b_R_isThere 17 = .ok (.iconst 0, 1) := by decide +kernel
theorem d_R_isThere_18 : decode b_R_isThere 18 = .ok (.ireturn, 1) := by decide +kernel
theorem d_R_isThere_19 : decode b_R_isThere 19 = .ok (.aload_n 0, 1) := by decide +kernel
theorem d_R_isThere_20 : decode b_R_isThere 20 = .ok (.iload_n 1, 1) := by decide +kernel
theorem d_R_isThere_21 : decode b_R_isThere 21 = .ok (.invokevirtual 144, 3) := by decide +kernel
theorem d_R_isThere_24 : decode b_R_isThere 24 = .ok (.aload_n 0, 1) := by decide +kernel
theorem d_R_isThere_25 : decode b_R_isThere 25 = .ok (.getfield 50, 3) := by decide +kernel
theorem d_R_isThere_28 : decode b_R_isThere 28 = .ok (.sipush 200, 3) := by decide +kernel
theorem d_R_isThere_31 : decode b_R_isThere 31 = .ok (.iload_n 1, 1) := by decide +kernel
theorem d_R_isThere_32 : decode b_R_isThere 32 = .ok (.imul, 1) := by decide +kernel
theorem d_R_isThere_33 : decode b_R_isThere 33 = .ok (.baload, 1) := by decide +kernel
theorem d_R_isThere_34 : decode b_R_isThere 34 = .ok (.ifCond .ne 7, 3) := by decide +kernel
theorem d_R_isThere_37 : decode b_R_isThere 37 = .ok (.iconst 1, 1) := by decide +kernel
theorem d_R_isThere_38 : decode b_R_isThere 38 = .ok (.goto 4, 3) := by decide +kernel
theorem d_R_isThere_41 : decode b_R_isThere 41 = .ok (.iconst 0, 1) := by decide +kernel
theorem d_R_isThere_42 : decode b_R_isThere 42 = .ok (.ireturn, 1) := by decide +kernel
end
section
theorem d_R_keep_0 : decode b_R_keep 0 = .ok (.aload_n 0, 1) := by decide +kernel
theorem d_R_keep_1 : decode b_R_keep 1 = .ok (.getfield 50, 3) := by decide +kernel
theorem d_R_keep_4 : decode b_R_keep 4 = .ok (.iload_n 1, 1) := by decide +kernel
theorem d_R_keep_5 : decode b_R_keep 5 = .ok (.baload, 1) := by decide +kernel
theorem d_R_keep_6 : decode b_R_keep 6 = .ok (.ifCond .ne 12, 3) := by decide +kernel
theorem d_R_keep_9 : decode b_R_keep 9 = .ok (.aload_n 0, 1) := by decide +kernel
theorem d_R_keep_10 : decode b_R_keep 10 = .ok (.getfield 59, 3) := by decide +kernel
theorem d_R_keep_13 : decode b_R_keep 13 = .ok (.iload_n 1, 1) := by decide +kernel
theorem d_R_keep_14 : decode b_R_keep 14 = .ok (.iaload, 1) := by decide +kernel
theorem d_R_keep_15 : decode b_R_keep 15 = .ok (.ifCond .le 4, 3) := by decide +kernel
theorem d_R_keep_18 : decode b_R_keep 18 = .ok (.return_, 1) := by decide +kernel
theorem d_R_keep_19 : decode b_R_keep 19 = .ok (.aload_n 0, 1) := by decide +kernel
theorem d_R_keep_20 : decode b_R_keep 20 = .ok (.getfield 56, 3) := by decide +kernel
theorem d_R_keep_23 : decode b_R_keep 23 = .ok (.aload_n 0, 1) := by decide +kernel
theorem d_R_keep_24 : decode b_R_keep 24 = .ok (.getfield 91, 3) := by decide +kernel
theorem d_R_keep_27 : decode b_R_keep 27 = .ok (.iload_n 1, 1) := by decide +kernel
theorem d_R_keep_28 : decode b_R_keep 28 = .ok (.iastore, 1) := by decide +kernel
theorem d_R_keep_29 : decode b_R_keep 29 = .ok (.aload_n 0, 1) := by decide +kernel
theorem d_R_keep_30 : decode b_R_keep 30 = .ok (.dup, 1) := by decide +kernel
theorem d_R_keep_31 : decode b_R_keep 31 = .ok (.getfield 91, 3) := by decide +kernel
theorem d_R_keep_34 : decode b_R_keep 34 = .ok (.iconst 1, 1) := by decide +kernel
theorem d_R_keep_35 : decode b_R_keep 35 = .ok (.iadd, 1) := by decide +kernel
theorem d_R_keep_36 : decode b_R_keep 36 = .ok (.putfield 91, 3) := by decide +kernel
theorem d_R_keep_39 : decode b_R_keep 39 = .ok (.aload_n 0, 1) := by decide +kernel
theorem d_R_keep_40 : decode b_R_keep 40 = .ok (.getfield 59, 3) := by decide +kernel
theorem d_R_keep_43 : decode b_R_keep 43 = .ok (.iload_n 1, 1) := by decide +kernel
theorem d_R_keep_44 : decode b_R_keep 44 = .ok (.aload_n 0, 1) := by decide +kernel
theorem d_R_keep_45 : decode b_R_keep 45 = .ok (.getfield 91, 3) := by decide +kernel
theorem d_R_keep_48 : decode b_R_keep 48 = .ok (.iastore, 1) := by decide +kernel
theorem d_R_keep_49 : decode b_R_keep 49 = .ok (.return_, 1) := by decide +kernel
theorem d_R_leads_0 : decode b_R_leads 0 = .ok (.aload_n 0, 1) := by decide +kernel
theorem d_R_leads_1 : decode b_R_leads 1 = .ok (.iload_n 1, 1) := by decide +kernel
theorem d_R_leads_2 : decode b_R_leads 2 = .ok (.iload_n 2, 1) := by decide +kernel
theorem d_R_leads_3 : decode b_R_leads 3 = .ok (.invokevirtual 161, 3) := by decide +kernel
theorem d_R_leads_6 : decode b_R_leads 6 = .ok (.ifCond .eq 5, 3) := by decide +kernel
theorem d_R_leads_9 : decode b_R_leads 9 = .ok (.iconst 0, 1) := by decide +kernel
theorem d_R_leads_10 : decode b_R_leads 10 = .ok (.ireturn, 1) := by decide +kernel
theorem d_R_leads_11 : decode b_R_leads 11 = .ok (.aload_n 0, 1) := by decide +kernel
theorem d_R_leads_12 : decode b_R_leads 12 = .ok (.iconst 0, 1) := by decide +kernel
theorem d_R_leads_13 : decode b_R_leads 13 = .ok (.aload_n 0, 1) := by decide +kernel
theorem d_R_leads_14 : decode b_R_leads 14 = .ok (.getfield 56, 3) := by decide +kernel
theorem d_R_leads_17 : decode b_R_leads 17 = .ok (.iload_n 1, 1) := by decide +kernel
theorem d_R_leads_18 : decode b_R_leads 18 = .ok (.iconst 1, 1) := by decide +kernel
theorem d_R_leads_19 : decode b_R_leads 19 = .ok (.isub, 1) := by decide +kernel
theorem d_R_leads_20 : decode b_R_leads 20 = .ok (.iaload, 1) := by decide +kernel
theorem d_R_leads_21 : decode b_R_leads 21 = .ok (.iload_n 2, 1) := by decide +kernel
theorem d_R_leads_22 : decode b_R_leads 22 = .ok (.invokevirtual 135, 3) := by decide +kernel
theorem d_R_leads_25 : decode b_R_leads 25 = .ok (.istore_n 3, 1) := by decide +kernel
theorem d_R_leads_26 : decode b_R_leads 26 = .ok (.iload_n 3, 1) := by decide +kernel
theorem d_R_leads_27 : decode b_R_leads 27 = .ok (.ifCond .ge 7, 3) := by decide +kernel
theorem d_R_leads_30 : decode b_R_leads 30 = .ok (.iconst 0, 1) := by decide +kernel
theorem d_R_leads_31 : decode b_R_leads 31 = .ok (.goto 9, 3) := by decide +kernel
theorem d_R_leads_34 : decode b_R_leads 34 = .ok (.aload_n 0, 1) := by decide +kernel
theorem d_R_leads_35 : decode b_R_leads 35 = .ok (.getfield 59, 3) := by decide +kernel
theorem d_R_leads_38 : decode b_R_leads 38 = .ok (.iload_n 3, 1) := by decide +kernel
theorem d_R_leads_39 : decode b_R_leads 39 = .ok (.iaload, 1) := by decide +kernel
theorem d_R_leads_40 : decode b_R_leads 40 = .ok (.ireturn, 1) := by decide +kernel
theorem d_R_make_0 : decode b_R_make 0 = .ok (.aload_n 0, 1) := by decide +kernel
theorem d_R_make_1 : decode b_R_make 1 = .ok (.iconst 0, 1) := by decide +kernel
theorem d_R_make_2 : decode b_R_make 2 = .ok (.putfield 83, 3) := by decide +kernel
theorem d_R_make_5 : decode b_R_make 5 = .ok (.aload_n 0, 1) := by decide +kernel
theorem d_R_make_6 : decode b_R_make 6 = .ok (.invokevirtual 105, 3) := by decide +kernel
theorem d_R_make_9 : decode b_R_make 9 = .ok (.aload_n 0, 1) := by decide +kernel
theorem d_R_make_10 : decode b_R_make 10 = .ok (.iconst (-1), 1) := by decide +kernel
theorem d_R_make_11 : decode b_R_make 11 = .ok (.invokevirtual 138, 3) := by decide +kernel
theorem d_R_make_14 : decode b_R_make 14 = .ok (.ifCond .ne 6, 3) := by decide +kernel
theorem d_R_make_17 : decode b_R_make 17 = .ok (.bipush (-2), 2) := by decide +kernel
theorem d_R_make_19 : decode b_R_make 19 = .ok (.ireturn, 1) := by decide +kernel
theorem d_R_make_20 : decode b_R_make 20 = .ok (.aload_n 0, 1) := by decide +kernel
theorem d_R_make_21 : decode b_R_make 21 = .ok (.iconst 0, 1) := by decide +kernel
theorem d_R_make_22 : decode b_R_make 22 = .ok (.iconst (-1), 1) := by decide +kernel
theorem d_R_make_23 : decode b_R_make 23 = .ok (.invokevirtual 141, 3) := by decide +kernel
theorem d_R_make_26 : decode b_R_make 26 = .ok (.ifCond .ne 5, 3) := by decide +kernel
theorem d_R_make_29 : decode b_R_make 29 = .ok (.iconst (-1), 1) := by decide +kernel
theorem d_R_make_30 : decode b_R_make 30 = .ok (.ireturn, 1) := by decide +kernel
theorem d_R_make_31 : decode b_R_make 31 = .ok (.aload_n 0, 1) := by decide +kernel
theorem d_R_make_32 : decode b_R_make 32 = .ok (.iconst 0, 1) := by decide +kernel
theorem d_R_make_33 : decode b_R_make 33 = .ok (.invokevirtual 144, 3) := by decide +kernel
theorem d_R_make_36 : decode b_R_make 36 = .ok (.aload_n 0, 1) := by decide +kernel
theorem d_R_make_37 : decode b_R_make 37 = .ok (.iconst 1, 1) := by decide +kernel
theorem d_R_make_38 : decode b_R_make 38 = .ok (.putfield 87, 3) := by decide +kernel
theorem d_R_make_41 : decode b_R_make 41 = .ok (.iconst 0, 1) := by decide +kernel
theorem d_R_make_42 : decode b_R_make 42 = .ok (.istore_n 1, 1) := by decide +kernel
theorem d_R_make_43 : decode b_R_make 43 = .ok (.iload_n 1, 1) := by decide +kernel
theorem d_R_make_44 : decode b_R_make 44 = .ok (.aload_n 0, 1) := by decide +kernel
theorem d_R_make_45 : decode b_R_make 45 = .ok (.getfield 35, 3) := by decide +kernel
theorem d_R_make_48 : decode b_R_make 48 = .ok (.iconst 0, 1) := by decide +kernel
theorem d_R_make_49 : decode b_R_make 49 = .ok (.iaload, 1) := by decide +kernel
theorem d_R_make_50 : decode b_R_make 50 = .ok (.if_icmp .ge 16, 3) := by decide +kernel
theorem d_R_make_53 : decode b_R_make 53 = .ok (.aload_n 0, 1) := by decide +kernel
theorem d_R_make_54 : decode b_R_make 54 = .ok (.getfield 59, 3) := by decide +kernel
theorem d_R_make_57 : decode b_R_make 57 = .ok (.iload_n 1, 1) := by decide +kernel
theorem d_R_make_58 : decode b_R_make 58 = .ok (.iconst 0, 1) := by decide +kernel
theorem d_R_make_59 : decode b_R_make 59 = .ok (.iastore, 1) := by decide +kernel
theorem d_R_make_60 : decode b_R_make 60 = .ok (.iinc 1 1, 3) := by decide +kernel
theorem d_R_make_63 : decode b_R_make 63 = .ok (.goto (-20), 3) := by decide +kernel
theorem d_R_make_66 : decode b_R_make 66 = .ok (.aload_n 0, 1) := by decide +kernel
theorem d_R_make_67 : decode b_R_make 67 = .ok (.iconst 0, 1) := by decide +kernel
theorem d_R_make_68 : decode b_R_make 68 = .ok (.invokevirtual 148, 3) := by decide +kernel
theorem d_R_make_71 : decode b_R_make 71 = .ok (.iconst 0, 1) := by decide +kernel
theorem d_R_make_72 : decode b_R_make 72 = .ok (.istore_n 1, 1) := by decide +kernel
theorem d_R_make_73 : decode b_R_make 73 = .ok (.iload_n 1, 1) := by decide +kernel
theorem d_R_make_74 : decode b_R_make 74 = .ok (.aload_n 0, 1) := by decide +kernel
theorem d_R_make_75 : decode b_R_make 75 = .ok (.getfield 91, 3) := by decide +kernel
theorem d_R_make_78 : decode b_R_make 78 = .ok (.if_icmp .ge 62, 3) := by decide +kernel
theorem d_R_make_81 : decode b_R_make 81 = .ok (.iconst 0, 1) := by decide +kernel
theorem d_R_make_82 : decode b_R_make 82 = .ok (.istore_n 2, 1) := by decide +kernel
theorem d_R_make_83 : decode b_R_make 83 = .ok (.iload_n 2, 1) := by decide +kernel
theorem d_R_make_84 : decode b_R_make 84 = .ok (.bipush 12, 2) := by decide +kernel
theorem d_R_make_86 : decode b_R_make 86 = .ok (.if_icmp .ge 48, 3) := by decide +kernel
theorem d_R_make_89 : decode b_R_make 89 = .ok (.aload_n 0, 1) := by decide +kernel
theorem d_R_make_90 : decode b_R_make 90 = .ok (.getfield 41, 3) := by decide +kernel
theorem d_R_make_93 : decode b_R_make 93 = .ok (.bipush 12, 2) := by decide +kernel
theorem d_R_make_95 : decode b_R_make 95 = .ok (.aload_n 0, 1) := by decide +kernel
theorem d_R_make_96 : decode b_R_make 96 = .ok (.getfield 56, 3) := by decide +kernel
theorem d_R_make_99 : decode b_R_make 99 = .ok (.iload_n 1, 1) := by decide +kernel
theorem d_R_make_100 : decode b_R_make 100 = .ok (.iaload, 1) := by decide +kernel
theorem d_R_make_101 : decode b_R_make 101 = .ok (.imul, 1) := by decide +kernel
theorem d_R_make_102 : decode b_R_make 102 = .ok (.iload_n 2, 1) := by decide +kernel
theorem d_R_make_103 : decode b_R_make 103 = .ok (.iadd, 1) := by decide +kernel
theorem d_R_make_104 : decode b_R_make 104 = .ok (.iaload, 1) := by decide +kernel
theorem d_R_make_105 : decode b_R_make 105 = .ok (.ifCond .lt 23, 3) := by decide +kernel
theorem d_R_make_108 : decode b_R_make 108 = .ok (.aload_n 0, 1) := by decide +kernel
theorem d_R_make_109 : decode b_R_make 109 = .ok (.aload_n 0, 1) := by decide +kernel
theorem d_R_make_110 : decode b_R_make 110 = .ok (.getfield 41, 3) := by decide +kernel
theorem d_R_make_113 : decode b_R_make 113 = .ok (.bipush 12, 2) := by decide +kernel
theorem d_R_make_115 : decode b_R_make 115 = .ok (.aload_n 0, 1) := by decide +kernel
theorem d_R_make_116 : decode b_R_make 116 = .ok (.getfield 56, 3) := by decide +kernel
theorem d_R_make_119 : decode b_R_make 119 = .ok (.iload_n 1, 1) := by decide +kernel
theorem d_R_make_120 : decode b_R_make 120 = .ok (.iaload, 1) := by decide +kernel
theorem d_R_make_121 : decode b_R_make 121 = .ok (.imul, 1) := by decide +kernel
theorem d_R_make_122 : decode b_R_make 122 = .ok (.iload_n 2, 1) := by decide +kernel
theorem d_R_make_123 : decode b_R_make 123 = .ok (.iadd, 1) := by decide +kernel
theorem d_R_make_124 : decode b_R_make 124 = .ok (.iaload, 1) := by decide +kernel
theorem d_R_make_125 : decode b_R_make 125 = .ok (.invokevirtual 148, 3) := by decide +kernel
theorem d_R_make_128 : decode b_R_make 128 = .ok (.iinc 2 1, 3) := by decide +kernel
theorem d_R_make_131 : decode b_R_make 131 = .ok (.goto (-48), 3) := by decide +kernel
theorem d_R_make_134 : decode b_R_make 134 = .ok (.iinc 1 1, 3) := by decide +kernel
theorem d_R_make_137 : decode b_R_make 137 = .ok (.goto (-64), 3) := by decide +kernel
theorem d_R_make_140 : decode b_R_make 140 = .ok (.aload_n 0, 1) := by decide +kernel
theorem d_R_make_141 : decode b_R_make 141 = .ok (.iconst 0, 1) := by decide +kernel
theorem d_R_make_142 : decode b_R_make 142 = .ok (.putfield 151, 3) := by decide +kernel
theorem d_R_make_145 : decode b_R_make 145 = .ok (.aload_n 0, 1) := by decide +kernel
theorem d_R_make_146 : decode b_R_make 146 = .ok (.aload_n 0, 1) := by decide +kernel
theorem d_R_make_147 : decode b_R_make 147 = .ok (.iconst 0, 1) := by decide +kernel
theorem d_R_make_148 : decode b_R_make 148 = .ok (.iconst 1, 1) := by decide +kernel
theorem d_R_make_149 : decode b_R_make 149 = .ok (.invokevirtual 154, 3) := by decide +kernel
theorem d_R_make_152 : decode b_R_make 152 = .ok (.putfield 158, 3) := by decide +kernel
theorem d_R_make_155 : decode b_R_make 155 = .ok (.aload_n 0, 1) := by decide +kernel
theorem d_R_make_156 : decode b_R_make 156 = .ok (.getfield 132, 3) := by decide +kernel
theorem d_R_make_159 : decode b_R_make 159 = .ok (.istore_n 1, 1) := by decide +kernel
theorem d_R_make_160 : decode b_R_make 160 = .ok (.aload_n 0, 1) := by decide +kernel
theorem d_R_make_161 : decode b_R_make 161 = .ok (.getfield 158, 3) := by decide +kernel
theorem d_R_make_164 : decode b_R_make 164 = .ok (.iconst 1, 1) := by decide +kernel
theorem d_R_make_165 : decode b_R_make 165 = .ok (.isub, 1) := by decide +kernel
theorem d_R_make_166 : decode b_R_make 166 = .ok (.istore_n 2, 1) := by decide +kernel
theorem d_R_make_167 : decode b_R_make 167 = .ok (.iload_n 2, 1) := by decide +kernel
theorem d_R_make_168 : decode b_R_make 168 = .ok (.ifCond .lt 28, 3) := by decide +kernel
theorem d_R_make_171 : decode b_R_make 171 = .ok (.aload_n 0, 1) := by decide +kernel
theorem d_R_make_172 : decode b_R_make 172 = .ok (.getfield 74, 3) := by decide +kernel
theorem d_R_make_175 : decode b_R_make 175 = .ok (.iload_n 2, 1) := by decide +kernel
theorem d_R_make_176 : decode b_R_make 176 = .ok (.aload_n 0, 1) := by decide +kernel
theorem d_R_make_177 : decode b_R_make 177 = .ok (.getfield 65, 3) := by decide +kernel
theorem d_R_make_180 : decode b_R_make 180 = .ok (.iload_n 1, 1) := by decide +kernel
theorem d_R_make_181 : decode b_R_make 181 = .ok (.iaload, 1) := by decide +kernel
theorem d_R_make_182 : decode b_R_make 182 = .ok (.iastore, 1) := by decide +kernel
theorem d_R_make_183 : decode b_R_make 183 = .ok (.aload_n 0, 1) := by decide +kernel
theorem d_R_make_184 : decode b_R_make 184 = .ok (.getfield 62, 3) := by decide +kernel
theorem d_R_make_187 : decode b_R_make 187 = .ok (.iload_n 1, 1) := by decide +kernel
theorem d_R_make_188 : decode b_R_make 188 = .ok (.iaload, 1) := by decide +kernel
theorem d_R_make_189 : decode b_R_make 189 = .ok (.istore_n 1, 1) := by decide +kernel
theorem d_R_make_190 : decode b_R_make 190 = .ok (.iinc 2 (-1), 3) := by decide +kernel
theorem d_R_make_193 : decode b_R_make 193 = .ok (.goto (-26), 3) := by decide +kernel
theorem d_R_make_196 : decode b_R_make 196 = .ok (.aload_n 0, 1) := by decide +kernel
theorem d_R_make_197 : decode b_R_make 197 = .ok (.getfield 91, 3) := by decide +kernel
theorem d_R_make_200 : decode b_R_make 200 = .ok (.ireturn, 1) := by decide +kernel
theorem d_R_many_0 : decode b_R_many 0 = .ok (.iload_n 1, 1) := by decide +kernel
theorem d_R_many_1 : decode b_R_many 1 = .ok (.iconst 2, 1) := by decide +kernel
theorem d_R_many_2 : decode b_R_many 2 = .ok (.invokestatic 94, 3) := by decide +kernel
theorem d_R_many_5 : decode b_R_many 5 = .ok (.istore_n 2, 1) := by decide +kernel
theorem d_R_many_6 : decode b_R_many 6 = .ok (.aload_n 0, 1) := by decide +kernel
theorem d_R_many_7 : decode b_R_many 7 = .ok (.iload_n 2, 1) := by decide +kernel
theorem d_R_many_8 : decode b_R_many 8 = .ok (.iload_n 2, 1) := by decide +kernel
theorem d_R_many_9 : decode b_R_many 9 = .ok (.ifCond .ne 14, 3) := by decide +kernel
theorem d_R_many_12 : decode b_R_many 12 = .ok (.aload_n 0, 1) := by decide +kernel
theorem d_R_many_13 : decode b_R_many 13 = .ok (.getfield 87, 3) := by decide +kernel
theorem d_R_many_16 : decode b_R_many 16 = .ok (.ifCond .ne 7, 3) := by decide +kernel
theorem d_R_many_19 : decode b_R_many 19 = .ok (.iconst 1, 1) := by decide +kernel
theorem d_R_many_20 : decode b_R_many 20 = .ok (.goto 4, 3) := by decide +kernel
theorem d_R_many_23 : decode b_R_many 23 = .ok (.iconst 0, 1) := by decide +kernel
theorem d_R_many_24 : decode b_R_many 24 = .ok (.invokevirtual 101, 3) := by decide +kernel
theorem d_R_many_27 : decode b_R_many 27 = .ok (.ifCond .eq 5, 3) := by decide +kernel
theorem d_R_many_30 : decode b_R_many 30 = .ok (.iconst 0, 1) := by decide +kernel
theorem d_R_many_31 : decode b_R_many 31 = .ok (.ireturn, 1) := by decide +kernel
theorem d_R_many_32 : decode b_R_many 32 = .ok (.iconst 0, 1) := by decide +kernel
theorem d_R_many_33 : decode b_R_many 33 = .ok (.istore_n 3, 1) := by decide +kernel
theorem d_R_many_34 : decode b_R_many 34 = .ok (.iconst 0, 1) := by decide +kernel
theorem d_R_many_35 : decode b_R_many 35 = .ok (.istore 4, 2) := by decide +kernel
theorem d_R_many_37 : decode b_R_many 37 = .ok (.iload 4, 2) := by decide +kernel
theorem d_R_many_39 : decode b_R_many 39 = .ok (.aload_n 0, 1) := by decide +kernel
theorem d_R_many_40 : decode b_R_many 40 = .ok (.getfield 35, 3) := by decide +kernel
theorem d_R_many_43 : decode b_R_many 43 = .ok (.iconst 0, 1) := by decide +kernel
theorem d_R_many_44 : decode b_R_many 44 = .ok (.iaload, 1) := by decide +kernel
theorem d_R_many_45 : decode b_R_many 45 = .ok (.if_icmp .ge 31, 3) := by decide +kernel
theorem d_R_many_48 : decode b_R_many 48 = .ok (.iload_n 1, 1) := by decide +kernel
theorem d_R_many_49 : decode b_R_many 49 = .ok (.ifCond .eq 13, 3) := by decide +kernel
theorem d_R_many_52 : decode b_R_many 52 = .ok (.aload_n 0, 1) := by decide +kernel
theorem d_R_many_53 : decode b_R_many 53 = .ok (.getfield 50, 3) := by decide +kernel
theorem d_R_many_56 : decode b_R_many 56 = .ok (.iload 4, 2) := by decide +kernel
theorem d_R_many_58 : decode b_R_many 58 = .ok (.baload, 1) := by decide +kernel
theorem d_R_many_59 : decode b_R_many 59 = .ok (.ifCond .ne 9, 3) := by decide +kernel
theorem d_R_many_62 : decode b_R_many 62 = .ok (.iload_n 3, 1) := by decide +kernel
theorem d_R_many_63 : decode b_R_many 63 = .ok (.iconst 1, 1) := by decide +kernel
theorem d_R_many_64 : decode b_R_many 64 = .ok (.iadd, 1) := by decide +kernel
theorem d_R_many_65 : decode b_R_many 65 = .ok (.goto 4, 3) := by decide +kernel
theorem d_R_many_68 : decode b_R_many 68 = .ok (.iload_n 3, 1) := by decide +kernel
theorem d_R_many_69 : decode b_R_many 69 = .ok (.istore_n 3, 1) := by decide +kernel
theorem d_R_many_70 : decode b_R_many 70 = .ok (.iinc 4 1, 3) := by decide +kernel
theorem d_R_many_73 : decode b_R_many 73 = .ok (.goto (-36), 3) := by decide +kernel
theorem d_R_many_76 : decode b_R_many 76 = .ok (.iload_n 3, 1) := by decide +kernel
theorem d_R_many_77 : decode b_R_many 77 = .ok (.ireturn, 1) := by decide +kernel
theorem d_R_out_0 : decode b_R_out 0 = .ok (.iload_n 0, 1) := by decide +kernel
theorem d_R_out_1 : decode b_R_out 1 = .ok (.ifCond .lt 8, 3) := by decide +kernel
theorem d_R_out_4 : decode b_R_out 4 = .ok (.iload_n 0, 1) := by decide +kernel
theorem d_R_out_5 : decode b_R_out 5 = .ok (.iload_n 1, 1) := by decide +kernel
theorem d_R_out_6 : decode b_R_out 6 = .ok (.if_icmp .lt 7, 3) := by decide +kernel
theorem d_R_out_9 : decode b_R_out 9 = .ok (.iconst 1, 1) := by decide +kernel
theorem d_R_out_10 : decode b_R_out 10 = .ok (.goto 4, 3) := by decide +kernel
theorem d_R_out_13 : decode b_R_out 13 = .ok (.iconst 0, 1) := by decide +kernel
theorem d_R_out_14 : decode b_R_out 14 = .ok (.ireturn, 1) := by decide +kernel
theorem d_R_part_0 : decode b_R_part 0 = .ok (.aload_n 0, 1) := by decide +kernel
theorem d_R_part_1 : decode b_R_part 1 = .ok (.aload_n 0, 1) := by decide +kernel
theorem d_R_part_2 : decode b_R_part 2 = .ok (.getfield 91, 3) := by decide +kernel
theorem d_R_part_5 : decode b_R_part 5 = .ok (.ifCond .ne 7, 3) := by decide +kernel
theorem d_R_part_8 : decode b_R_part 8 = .ok (.iconst 1, 1) := by decide +kernel
theorem d_R_part_9 : decode b_R_part 9 = .ok (.goto 4, 3) := by decide +kernel
theorem d_R_part_12 : decode b_R_part 12 = .ok (.iconst 0, 1) := by decide +kernel
theorem d_R_part_13 : decode b_R_part 13 = .ok (.aload_n 0, 1) := by decide +kernel
theorem d_R_part_14 : decode b_R_part 14 = .ok (.getfield 91, 3) := by decide +kernel
theorem d_R_part_17 : decode b_R_part 17 = .ok (.ifCond .le 31, 3) := by decide +kernel
theorem d_R_part_20 : decode b_R_part 20 = .ok (.iload_n 1, 1) := by decide +kernel
theorem d_R_part_21 : decode b_R_part 21 = .ok (.iconst 1, 1) := by decide +kernel
theorem d_R_part_22 : decode b_R_part 22 = .ok (.if_icmp .lt 22, 3) := by decide +kernel
theorem d_R_part_25 : decode b_R_part 25 = .ok (.iload_n 1, 1) := by decide +kernel
theorem d_R_part_26 : decode b_R_part 26 = .ok (.aload_n 0, 1) := by decide +kernel
theorem d_R_part_27 : decode b_R_part 27 = .ok (.getfield 91, 3) := by decide +kernel
theorem d_R_part_30 : decode b_R_part 30 = .ok (.if_icmp .gt 14, 3) := by decide +kernel
theorem d_R_part_33 : decode b_R_part 33 = .ok (.iload_n 2, 1) := by decide +kernel
theorem d_R_part_34 : decode b_R_part 34 = .ok (.aload_n 0, 1) := by decide +kernel
theorem d_R_part_35 : decode b_R_part 35 = .ok (.getfield 98, 3) := by decide +kernel
theorem d_R_part_38 : decode b_R_part 38 = .ok (.invokestatic 94, 3) := by decide +kernel
theorem d_R_part_41 : decode b_R_part 41 = .ok (.ifCond .eq 7, 3) := by decide +kernel
theorem d_R_part_44 : decode b_R_part 44 = .ok (.iconst 1, 1) := by decide +kernel
theorem d_R_part_45 : decode b_R_part 45 = .ok (.goto 4, 3) := by decide +kernel
theorem d_R_part_48 : decode b_R_part 48 = .ok (.iconst 0, 1) := by decide +kernel
theorem d_R_part_49 : decode b_R_part 49 = .ok (.invokevirtual 101, 3) := by decide +kernel
theorem d_R_part_52 : decode b_R_part 52 = .ok (.ifCond .eq 5, 3) := by decide +kernel
theorem d_R_part_55 : decode b_R_part 55 = .ok (.iconst 0, 1) := by decide +kernel
theorem d_R_part_56 : decode b_R_part 56 = .ok (.ireturn, 1) := by decide +kernel
theorem d_R_part_57 : decode b_R_part 57 = .ok (.aload_n 0, 1) := by decide +kernel
theorem d_R_part_58 : decode b_R_part 58 = .ok (.getfield 38, 3) := by decide +kernel
theorem d_R_part_61 : decode b_R_part 61 = .ok (.aload_n 0, 1) := by decide +kernel
theorem d_R_part_62 : decode b_R_part 62 = .ok (.getfield 56, 3) := by decide +kernel
theorem d_R_part_65 : decode b_R_part 65 = .ok (.iload_n 1, 1) := by decide +kernel
theorem d_R_part_66 : decode b_R_part 66 = .ok (.iconst 1, 1) := by decide +kernel
theorem d_R_part_67 : decode b_R_part 67 = .ok (.isub, 1) := by decide +kernel
theorem d_R_part_68 : decode b_R_part 68 = .ok (.iaload, 1) := by decide +kernel
theorem d_R_part_69 : decode b_R_part 69 = .ok (.iaload, 1) := by decide +kernel
theorem d_R_part_70 : decode b_R_part 70 = .ok (.iload_n 2, 1) := by decide +kernel
theorem d_R_part_71 : decode b_R_part 71 = .ok (.invokestatic 114, 3) := by decide +kernel
theorem d_R_part_74 : decode b_R_part 74 = .ok (.ireturn, 1) := by decide +kernel
theorem d_R_placeOf_0 : decode b_R_placeOf 0 = .ok (.iconst 0, 1) := by decide +kernel
theorem d_R_placeOf_1 : decode b_R_placeOf 1 = .ok (.istore_n 3, 1) := by decide +kernel
theorem d_R_placeOf_2 : decode b_R_placeOf 2 = .ok (.iload_n 3, 1) := by decide +kernel
theorem d_R_placeOf_3 : decode b_R_placeOf 3 = .ok (.aload_n 0, 1) := by decide +kernel
theorem d_R_placeOf_4 : decode b_R_placeOf 4 = .ok (.getfield 35, 3) := by decide +kernel
theorem d_R_placeOf_7 : decode b_R_placeOf 7 = .ok (.iload_n 1, 1) := by decide +kernel
theorem d_R_placeOf_8 : decode b_R_placeOf 8 = .ok (.iaload, 1) := by decide +kernel
theorem d_R_placeOf_9 : decode b_R_placeOf 9 = .ok (.if_icmp .ge 27, 3) := by decide +kernel
theorem d_R_placeOf_12 : decode b_R_placeOf 12 = .ok (.aload_n 0, 1) := by decide +kernel
theorem d_R_placeOf_13 : decode b_R_placeOf 13 = .ok (.getfield 38, 3) := by decide +kernel
theorem d_R_placeOf_16 : decode b_R_placeOf 16 = .ok (.sipush 200, 3) := by decide +kernel
theorem d_R_placeOf_19 : decode b_R_placeOf 19 = .ok (.iload_n 1, 1) := by decide +kernel
theorem d_R_placeOf_20 : decode b_R_placeOf 20 = .ok (.imul, 1) := by decide +kernel
theorem d_R_placeOf_21 : decode b_R_placeOf 21 = .ok (.iload_n 3, 1) := by decide +kernel
theorem d_R_placeOf_22 : decode b_R_placeOf 22 = .ok (.iadd, 1) := by decide +kernel
theorem d_R_placeOf_23 : decode b_R_placeOf 23 = .ok (.iaload, 1) := by decide +kernel
theorem d_R_placeOf_24 : decode b_R_placeOf 24 = .ok (.iload_n 2, 1) := by decide +kernel
theorem d_R_placeOf_25 : decode b_R_placeOf 25 = .ok (.if_icmp .ne 5, 3) := by decide +kernel
theorem d_R_placeOf_28 : decode b_R_placeOf 28 = .ok (.iload_n 3, 1) := by decide +kernel
theorem d_R_placeOf_29 : decode b_R_placeOf 29 = .ok (.ireturn, 1) := by decide +kernel
theorem d_R_placeOf_30 : decode b_R_placeOf 30 = .ok (.iinc 3 1, 3) := by decide +kernel
theorem d_R_placeOf_33 : decode b_R_placeOf 33 = .ok (.goto (-31), 3) := by decide +kernel
theorem d_R_placeOf_36 : decode b_R_placeOf 36 = .ok (.aload_n 0, 1) := by decide +kernel
theorem d_R_placeOf_37 : decode b_R_placeOf 37 = .ok (.getfield 35, 3) := by decide +kernel
theorem d_R_placeOf_40 : decode b_R_placeOf 40 = .ok (.iload_n 1, 1) := by decide +kernel
theorem d_R_placeOf_41 : decode b_R_placeOf 41 = .ok (.iaload, 1) := by decide +kernel
theorem d_R_placeOf_42 : decode b_R_placeOf 42 = .ok (.sipush 200, 3) := by decide +kernel
theorem d_R_placeOf_45 : decode b_R_placeOf 45 = .ok (.if_icmp .ne 5, 3) := by decide +kernel
theorem d_R_placeOf_48 : decode b_R_placeOf 48 = .ok (.iconst (-1), 1) := by decide +kernel
theorem d_R_placeOf_49 : decode b_R_placeOf 49 = .ok (.ireturn, 1) := by decide +kernel
theorem d_R_placeOf_50 : decode b_R_placeOf 50 = .ok (.aload_n 0, 1) := by decide +kernel
theorem d_R_placeOf_51 : decode b_R_placeOf 51 = .ok (.getfield 38, 3) := by decide +kernel
theorem d_R_placeOf_54 : decode b_R_placeOf 54 = .ok (.sipush 200, 3) := by decide +kernel
theorem d_R_placeOf_57 : decode b_R_placeOf 57 = .ok (.iload_n 1, 1) := by decide +kernel
theorem d_R_placeOf_58 : decode b_R_placeOf 58 = .ok (.imul, 1) := by decide +kernel
theorem d_R_placeOf_59 : decode b_R_placeOf 59 = .ok (.aload_n 0, 1) := by decide +kernel
theorem d_R_placeOf_60 : decode b_R_placeOf 60 = .ok (.getfield 35, 3) := by decide +kernel
theorem d_R_placeOf_63 : decode b_R_placeOf 63 = .ok (.iload_n 1, 1) := by decide +kernel
theorem d_R_placeOf_64 : decode b_R_placeOf 64 = .ok (.iaload, 1) := by decide +kernel
theorem d_R_placeOf_65 : decode b_R_placeOf 65 = .ok (.iadd, 1) := by decide +kernel
theorem d_R_placeOf_66 : decode b_R_placeOf 66 = .ok (.iload_n 2, 1) := by decide +kernel
theorem d_R_placeOf_67 : decode b_R_placeOf 67 = .ok (.iastore, 1) := by decide +kernel
theorem d_R_placeOf_68 : decode b_R_placeOf 68 = .ok (.aload_n 0, 1) := by decide +kernel
theorem d_R_placeOf_69 : decode b_R_placeOf 69 = .ok (.getfield 35, 3) := by decide +kernel
theorem d_R_placeOf_72 : decode b_R_placeOf 72 = .ok (.iload_n 1, 1) := by decide +kernel
theorem d_R_placeOf_73 : decode b_R_placeOf 73 = .ok (.dup2, 1) := by decide +kernel
theorem d_R_placeOf_74 : decode b_R_placeOf 74 = .ok (.iaload, 1) := by decide +kernel
theorem d_R_placeOf_75 : decode b_R_placeOf 75 = .ok (.iconst 1, 1) := by decide +kernel
theorem d_R_placeOf_76 : decode b_R_placeOf 76 = .ok (.iadd, 1) := by decide +kernel
theorem d_R_placeOf_77 : decode b_R_placeOf 77 = .ok (.iastore, 1) := by decide +kernel
theorem d_R_placeOf_78 : decode b_R_placeOf 78 = .ok (.aload_n 0, 1) := by decide +kernel
theorem d_R_placeOf_79 : decode b_R_placeOf 79 = .ok (.getfield 35, 3) := by decide +kernel
theorem d_R_placeOf_82 : decode b_R_placeOf 82 = .ok (.iload_n 1, 1) := by decide +kernel
theorem d_R_placeOf_83 : decode b_R_placeOf 83 = .ok (.iaload, 1) := by decide +kernel
theorem d_R_placeOf_84 : decode b_R_placeOf 84 = .ok (.iconst 1, 1) := by decide +kernel
theorem d_R_placeOf_85 : decode b_R_placeOf 85 = .ok (.isub, 1) := by decide +kernel
theorem d_R_placeOf_86 : decode b_R_placeOf 86 = .ok (.ireturn, 1) := by decide +kernel
theorem d_R_refuses_0 : decode b_R_refuses 0 = .ok (.aload_n 0, 1) := by decide +kernel
theorem d_R_refuses_1 : decode b_R_refuses 1 = .ok (.aload_n 0, 1) := by decide +kernel
theorem d_R_refuses_2 : decode b_R_refuses 2 = .ok (.getfield 91, 3) := by decide +kernel
theorem d_R_refuses_5 : decode b_R_refuses 5 = .ok (.ifCond .ne 7, 3) := by decide +kernel
theorem d_R_refuses_8 : decode b_R_refuses 8 = .ok (.iconst 1, 1) := by decide +kernel
theorem d_R_refuses_9 : decode b_R_refuses 9 = .ok (.goto 4, 3) := by decide +kernel
theorem d_R_refuses_12 : decode b_R_refuses 12 = .ok (.iconst 0, 1) := by decide +kernel
theorem d_R_refuses_13 : decode b_R_refuses 13 = .ok (.aload_n 0, 1) := by decide +kernel
theorem d_R_refuses_14 : decode b_R_refuses 14 = .ok (.getfield 91, 3) := by decide +kernel
theorem d_R_refuses_17 : decode b_R_refuses 17 = .ok (.ifCond .le 29, 3) := by decide +kernel
theorem d_R_refuses_20 : decode b_R_refuses 20 = .ok (.iload_n 2, 1) := by decide +kernel
theorem d_R_refuses_21 : decode b_R_refuses 21 = .ok (.bipush 12, 2) := by decide +kernel
theorem d_R_refuses_23 : decode b_R_refuses 23 = .ok (.invokestatic 94, 3) := by decide +kernel
theorem d_R_refuses_26 : decode b_R_refuses 26 = .ok (.ifCond .ne 16, 3) := by decide +kernel
theorem d_R_refuses_29 : decode b_R_refuses 29 = .ok (.iload_n 1, 1) := by decide +kernel
theorem d_R_refuses_30 : decode b_R_refuses 30 = .ok (.iconst 1, 1) := by decide +kernel
theorem d_R_refuses_31 : decode b_R_refuses 31 = .ok (.if_icmp .lt 11, 3) := by decide +kernel
theorem d_R_refuses_34 : decode b_R_refuses 34 = .ok (.iload_n 1, 1) := by decide +kernel
theorem d_R_refuses_35 : decode b_R_refuses 35 = .ok (.aload_n 0, 1) := by decide +kernel
theorem d_R_refuses_36 : decode b_R_refuses 36 = .ok (.getfield 91, 3) := by decide +kernel
theorem d_R_refuses_39 : decode b_R_refuses 39 = .ok (.if_icmp .le 7, 3) := by decide +kernel
theorem d_R_refuses_42 : decode b_R_refuses 42 = .ok (.iconst 1, 1) := by decide +kernel
theorem d_R_refuses_43 : decode b_R_refuses 43 = .ok (.goto 4, 3) := by decide +kernel
theorem d_R_refuses_46 : decode b_R_refuses 46 = .ok (.iconst 0, 1) := by decide +kernel
theorem d_R_refuses_47 : decode b_R_refuses 47 = .ok (.invokevirtual 101, 3) := by decide +kernel
theorem d_R_refuses_50 : decode b_R_refuses 50 = .ok (.ireturn, 1) := by decide +kernel
theorem d_R_reset_0 : decode b_R_reset 0 = .ok (.aload_n 0, 1) := by decide +kernel
theorem d_R_reset_1 : decode b_R_reset 1 = .ok (.aload_n 0, 1) := by decide +kernel
theorem d_R_reset_2 : decode b_R_reset 2 = .ok (.getfield 91, 3) := by decide +kernel
theorem d_R_reset_5 : decode b_R_reset 5 = .ok (.ifCond .ne 7, 3) := by decide +kernel
theorem d_R_reset_8 : decode b_R_reset 8 = .ok (.iconst 1, 1) := by decide +kernel
theorem d_R_reset_9 : decode b_R_reset 9 = .ok (.goto 4, 3) := by decide +kernel
theorem d_R_reset_12 : decode b_R_reset 12 = .ok (.iconst 0, 1) := by decide +kernel
theorem d_R_reset_13 : decode b_R_reset 13 = .ok (.iconst 0, 1) := by decide +kernel
theorem d_R_reset_14 : decode b_R_reset 14 = .ok (.invokevirtual 101, 3) := by decide +kernel
theorem d_R_reset_17 : decode b_R_reset 17 = .ok (.ifCond .eq 4, 3) := by decide +kernel
theorem d_R_reset_20 : decode b_R_reset 20 = .ok (.return_, 1) := by decide +kernel
theorem d_R_reset_21 : decode b_R_reset 21 = .ok (.aload_n 0, 1) := by decide +kernel
theorem d_R_reset_22 : decode b_R_reset 22 = .ok (.iconst 0, 1) := by decide +kernel
theorem d_R_reset_23 : decode b_R_reset 23 = .ok (.putfield 151, 3) := by decide +kernel
theorem d_R_reset_26 : decode b_R_reset 26 = .ok (.return_, 1) := by decide +kernel
theorem d_R_says_0 : decode b_R_says 0 = .ok (.aload_n 0, 1) := by decide +kernel
theorem d_R_says_1 : decode b_R_says 1 = .ok (.iload_n 1, 1) := by decide +kernel
theorem d_R_says_2 : decode b_R_says 2 = .ok (.iload_n 2, 1) := by decide +kernel
theorem d_R_says_3 : decode b_R_says 3 = .ok (.invokevirtual 161, 3) := by decide +kernel
theorem d_R_says_6 : decode b_R_says 6 = .ok (.ifCond .eq 5, 3) := by decide +kernel
theorem d_R_says_9 : decode b_R_says 9 = .ok (.iconst 0, 1) := by decide +kernel
theorem d_R_says_10 : decode b_R_says 10 = .ok (.ireturn, 1) := by decide +kernel
theorem d_R_says_11 : decode b_R_says 11 = .ok (.aload_n 0, 1) := by decide +kernel
theorem d_R_says_12 : decode b_R_says 12 = .ok (.getfield 56, 3) := by decide +kernel
theorem d_R_says_15 : decode b_R_says 15 = .ok (.iload_n 1, 1) := by decide +kernel
theorem d_R_says_16 : decode b_R_says 16 = .ok (.iconst 1, 1) := by decide +kernel
theorem d_R_says_17 : decode b_R_says 17 = .ok (.isub, 1) := by decide +kernel
theorem d_R_says_18 : decode b_R_says 18 = .ok (.iaload, 1) := by decide +kernel
theorem d_R_says_19 : decode b_R_says 19 = .ok (.istore_n 3, 1) := by decide +kernel
theorem d_R_says_20 : decode b_R_says 20 = .ok (.aload_n 0, 1) := by decide +kernel
theorem d_R_says_21 : decode b_R_says 21 = .ok (.getfield 44, 3) := by decide +kernel
theorem d_R_says_24 : decode b_R_says 24 = .ok (.bipush 12, 2) := by decide +kernel
theorem d_R_says_26 : decode b_R_says 26 = .ok (.iload_n 3, 1) := by decide +kernel
theorem d_R_says_27 : decode b_R_says 27 = .ok (.imul, 1) := by decide +kernel
theorem d_R_says_28 : decode b_R_says 28 = .ok (.iload_n 2, 1) := by decide +kernel
theorem d_R_says_29 : decode b_R_says 29 = .ok (.iadd, 1) := by decide +kernel
theorem d_R_says_30 : decode b_R_says 30 = .ok (.baload, 1) := by decide +kernel
theorem d_R_says_31 : decode b_R_says 31 = .ok (.ifCond .ne 7, 3) := by decide +kernel
theorem d_R_says_34 : decode b_R_says 34 = .ok (.iconst 2, 1) := by decide +kernel
theorem d_R_says_35 : decode b_R_says 35 = .ok (.goto 18, 3) := by decide +kernel
theorem d_R_says_38 : decode b_R_says 38 = .ok (.aload_n 0, 1) := by decide +kernel
theorem d_R_says_39 : decode b_R_says 39 = .ok (.iconst 0, 1) := by decide +kernel
theorem d_R_says_40 : decode b_R_says 40 = .ok (.iload_n 3, 1) := by decide +kernel
theorem d_R_says_41 : decode b_R_says 41 = .ok (.iload_n 2, 1) := by decide +kernel
theorem d_R_says_42 : decode b_R_says 42 = .ok (.invokevirtual 135, 3) := by decide +kernel
theorem d_R_says_45 : decode b_R_says 45 = .ok (.ifCond .lt 7, 3) := by decide +kernel
theorem d_R_says_48 : decode b_R_says 48 = .ok (.iconst 0, 1) := by decide +kernel
theorem d_R_says_49 : decode b_R_says 49 = .ok (.goto 4, 3) := by decide +kernel
theorem d_R_says_52 : decode b_R_says 52 = .ok (.iconst 1, 1) := by decide +kernel
theorem d_R_says_53 : decode b_R_says 53 = .ok (.ireturn, 1) := by decide +kernel
theorem d_R_search_0 : decode b_R_search 0 = .ok (.iconst 0, 1) := by decide +kernel
theorem d_R_search_1 : decode b_R_search 1 = .ok (.istore_n 3, 1) := by decide +kernel
theorem d_R_search_2 : decode b_R_search 2 = .ok (.iload_n 3, 1) := by decide +kernel
theorem d_R_search_3 : decode b_R_search 3 = .ok (.aload_n 0, 1) := by decide +kernel
theorem d_R_search_4 : decode b_R_search 4 = .ok (.getfield 35, 3) := by decide +kernel
theorem d_R_search_7 : decode b_R_search 7 = .ok (.iconst 0, 1) := by decide +kernel
theorem d_R_search_8 : decode b_R_search 8 = .ok (.iaload, 1) := by decide +kernel
theorem d_R_search_9 : decode b_R_search 9 = .ok (.if_icmp .ge 16, 3) := by decide +kernel
theorem d_R_search_12 : decode b_R_search 12 = .ok (.aload_n 0, 1) := by decide +kernel
theorem d_R_search_13 : decode b_R_search 13 = .ok (.getfield 68, 3) := by decide +kernel
theorem d_R_search_16 : decode b_R_search 16 = .ok (.iload_n 3, 1) := by decide +kernel
theorem d_R_search_17 : decode b_R_search 17 = .ok (.iconst (-1), 1) := by decide +kernel
theorem d_R_search_18 : decode b_R_search 18 = .ok (.iastore, 1) := by decide +kernel
theorem d_R_search_19 : decode b_R_search 19 = .ok (.iinc 3 1, 3) := by decide +kernel
theorem d_R_search_22 : decode b_R_search 22 = .ok (.goto (-20), 3) := by decide +kernel
theorem d_R_search_25 : decode b_R_search 25 = .ok (.aload_n 0, 1) := by decide +kernel
theorem d_R_search_26 : decode b_R_search 26 = .ok (.getfield 68, 3) := by decide +kernel
theorem d_R_search_29 : decode b_R_search 29 = .ok (.iload_n 1, 1) := by decide +kernel
theorem d_R_search_30 : decode b_R_search 30 = .ok (.iconst 0, 1) := by decide +kernel
theorem d_R_search_31 : decode b_R_search 31 = .ok (.iastore, 1) := by decide +kernel
theorem d_R_search_32 : decode b_R_search 32 = .ok (.aload_n 0, 1) := by decide +kernel
theorem d_R_search_33 : decode b_R_search 33 = .ok (.getfield 71, 3) := by decide +kernel
theorem d_R_search_36 : decode b_R_search 36 = .ok (.iconst 0, 1) := by decide +kernel
theorem d_R_search_37 : decode b_R_search 37 = .ok (.iload_n 1, 1) := by decide +kernel
theorem d_R_search_38 : decode b_R_search 38 = .ok (.iastore, 1) := by decide +kernel
theorem d_R_search_39 : decode b_R_search 39 = .ok (.iconst 1, 1) := by decide +kernel
theorem d_R_search_40 : decode b_R_search 40 = .ok (.istore_n 3, 1) := by decide +kernel
theorem d_R_search_41 : decode b_R_search 41 = .ok (.iconst 0, 1) := by decide +kernel
theorem d_R_search_42 : decode b_R_search 42 = .ok (.istore 4, 2) := by decide +kernel
theorem d_R_search_44 : decode b_R_search 44 = .ok (.iload 4, 2) := by decide +kernel
theorem d_R_search_46 : decode b_R_search 46 = .ok (.iload_n 3, 1) := by decide +kernel
theorem d_R_search_47 : decode b_R_search 47 = .ok (.if_icmp .ge 169, 3) := by decide +kernel
theorem d_R_search_50 : decode b_R_search 50 = .ok (.aload_n 0, 1) := by decide +kernel
theorem d_R_search_51 : decode b_R_search 51 = .ok (.getfield 71, 3) := by decide +kernel
theorem d_R_search_54 : decode b_R_search 54 = .ok (.iload 4, 2) := by decide +kernel
theorem d_R_search_56 : decode b_R_search 56 = .ok (.iaload, 1) := by decide +kernel
theorem d_R_search_57 : decode b_R_search 57 = .ok (.istore 5, 2) := by decide +kernel
theorem d_R_search_59 : decode b_R_search 59 = .ok (.iload_n 2, 1) := by decide +kernel
theorem d_R_search_60 : decode b_R_search 60 = .ok (.ifCond .eq 16, 3) := by decide +kernel
theorem d_R_search_63 : decode b_R_search 63 = .ok (.aload_n 0, 1) := by decide +kernel
theorem d_R_search_64 : decode b_R_search 64 = .ok (.getfield 50, 3) := by decide +kernel
theorem d_R_search_67 : decode b_R_search 67 = .ok (.iload 5, 2) := by decide +kernel
theorem d_R_search_69 : decode b_R_search 69 = .ok (.baload, 1) := by decide +kernel
theorem d_R_search_70 : decode b_R_search 70 = .ok (.ifCond .eq 30, 3) := by decide +kernel
theorem d_R_search_73 : decode b_R_search 73 = .ok (.goto 13, 3) := by decide +kernel
theorem d_R_search_76 : decode b_R_search 76 = .ok (.aload_n 0, 1) := by decide +kernel
theorem d_R_search_77 : decode b_R_search 77 = .ok (.getfield 47, 3) := by decide +kernel
theorem d_R_search_80 : decode b_R_search 80 = .ok (.iload 5, 2) := by decide +kernel
theorem d_R_search_82 : decode b_R_search 82 = .ok (.baload, 1) := by decide +kernel
theorem d_R_search_83 : decode b_R_search 83 = .ok (.ifCond .eq 17, 3) := by decide +kernel
theorem d_R_search_86 : decode b_R_search 86 = .ok (.aload_n 0, 1) := by decide +kernel
theorem d_R_search_87 : decode b_R_search 87 = .ok (.iload 5, 2) := by decide +kernel
theorem d_R_search_89 : decode b_R_search 89 = .ok (.putfield 132, 3) := by decide +kernel
theorem d_R_search_92 : decode b_R_search 92 = .ok (.aload_n 0, 1) := by decide +kernel
theorem d_R_search_93 : decode b_R_search 93 = .ok (.getfield 68, 3) := by decide +kernel
theorem d_R_search_96 : decode b_R_search 96 = .ok (.iload 5, 2) := by decide +kernel
theorem d_R_search_98 : decode b_R_search 98 = .ok (.iaload, 1) := by decide +kernel
theorem d_R_search_99 : decode b_R_search 99 = .ok (.ireturn, 1) := by decide +kernel
theorem d_R_search_100 : decode b_R_search 100 = .ok (.iconst 0, 1) := by decide +kernel
theorem d_R_search_101 : decode b_R_search 101 = .ok (.istore 6, 2) := by decide +kernel
theorem d_R_search_103 : decode b_R_search 103 = .ok (.iload 6, 2) := by decide +kernel
theorem d_R_search_105 : decode b_R_search 105 = .ok (.bipush 12, 2) := by decide +kernel
theorem d_R_search_107 : decode b_R_search 107 = .ok (.if_icmp .ge 103, 3) := by decide +kernel
theorem d_R_search_110 : decode b_R_search 110 = .ok (.iload_n 2, 1) := by decide +kernel
theorem d_R_search_111 : decode b_R_search 111 = .ok (.ifCond .eq 19, 3) := by decide +kernel
theorem d_R_search_114 : decode b_R_search 114 = .ok (.aload_n 0, 1) := by decide +kernel
theorem d_R_search_115 : decode b_R_search 115 = .ok (.getfield 41, 3) := by decide +kernel
theorem d_R_search_118 : decode b_R_search 118 = .ok (.bipush 12, 2) := by decide +kernel
theorem d_R_search_120 : decode b_R_search 120 = .ok (.iload 5, 2) := by decide +kernel
theorem d_R_search_122 : decode b_R_search 122 = .ok (.imul, 1) := by decide +kernel
theorem d_R_search_123 : decode b_R_search 123 = .ok (.iload 6, 2) := by decide +kernel
theorem d_R_search_125 : decode b_R_search 125 = .ok (.iadd, 1) := by decide +kernel
theorem d_R_search_126 : decode b_R_search 126 = .ok (.iaload, 1) := by decide +kernel
theorem d_R_search_127 : decode b_R_search 127 = .ok (.goto 12, 3) := by decide +kernel
theorem d_R_search_130 : decode b_R_search 130 = .ok (.aload_n 0, 1) := by decide +kernel
theorem d_R_search_131 : decode b_R_search 131 = .ok (.iconst 0, 1) := by decide +kernel
theorem d_R_search_132 : decode b_R_search 132 = .ok (.iload 5, 2) := by decide +kernel
theorem d_R_search_134 : decode b_R_search 134 = .ok (.iload 6, 2) := by decide +kernel
theorem d_R_search_136 : decode b_R_search 136 = .ok (.invokevirtual 135, 3) := by decide +kernel
theorem d_R_search_139 : decode b_R_search 139 = .ok (.istore 7, 2) := by decide +kernel
theorem d_R_search_141 : decode b_R_search 141 = .ok (.iload 7, 2) := by decide +kernel
theorem d_R_search_143 : decode b_R_search 143 = .ok (.ifCond .lt 61, 3) := by decide +kernel
theorem d_R_search_146 : decode b_R_search 146 = .ok (.aload_n 0, 1) := by decide +kernel
theorem d_R_search_147 : decode b_R_search 147 = .ok (.getfield 68, 3) := by decide +kernel
theorem d_R_search_150 : decode b_R_search 150 = .ok (.iload 7, 2) := by decide +kernel
theorem d_R_search_152 : decode b_R_search 152 = .ok (.iaload, 1) := by decide +kernel
theorem d_R_search_153 : decode b_R_search 153 = .ok (.ifCond .lt 6, 3) := by decide +kernel
theorem d_R_search_156 : decode b_R_search 156 = .ok (.goto 48, 3) := by decide +kernel
theorem d_R_search_159 : decode b_R_search 159 = .ok (.aload_n 0, 1) := by decide +kernel
theorem d_R_search_160 : decode b_R_search 160 = .ok (.getfield 68, 3) := by decide +kernel
theorem d_R_search_163 : decode b_R_search 163 = .ok (.iload 7, 2) := by decide +kernel
theorem d_R_search_165 : decode b_R_search 165 = .ok (.aload_n 0, 1) := by decide +kernel
theorem d_R_search_166 : decode b_R_search 166 = .ok (.getfield 68, 3) := by decide +kernel
theorem d_R_search_169 : decode b_R_search 169 = .ok (.iload 5, 2) := by decide +kernel
theorem d_R_search_171 : decode b_R_search 171 = .ok (.iaload, 1) := by decide +kernel
theorem d_R_search_172 : decode b_R_search 172 = .ok (.iconst 1, 1) := by decide +kernel
theorem d_R_search_173 : decode b_R_search 173 = .ok (.iadd, 1) := by decide +kernel
theorem d_R_search_174 : decode b_R_search 174 = .ok (.iastore, 1) := by decide +kernel
theorem d_R_search_175 : decode b_R_search 175 = .ok (.aload_n 0, 1) := by decide +kernel
theorem d_R_search_176 : decode b_R_search 176 = .ok (.getfield 62, 3) := by decide +kernel
theorem d_R_search_179 : decode b_R_search 179 = .ok (.iload 7, 2) := by decide +kernel
theorem d_R_search_181 : decode b_R_search 181 = .ok (.iload 5, 2) := by decide +kernel
theorem d_R_search_183 : decode b_R_search 183 = .ok (.iastore, 1) := by decide +kernel
theorem d_R_search_184 : decode b_R_search 184 = .ok (.aload_n 0, 1) := by decide +kernel
theorem d_R_search_185 : decode b_R_search 185 = .ok (.getfield 65, 3) := by decide +kernel
theorem d_R_search_188 : decode b_R_search 188 = .ok (.iload 7, 2) := by decide +kernel
theorem d_R_search_190 : decode b_R_search 190 = .ok (.iload 6, 2) := by decide +kernel
theorem d_R_search_192 : decode b_R_search 192 = .ok (.iastore, 1) := by decide +kernel
theorem d_R_search_193 : decode b_R_search 193 = .ok (.aload_n 0, 1) := by decide +kernel
theorem d_R_search_194 : decode b_R_search 194 = .ok (.getfield 71, 3) := by decide +kernel
theorem d_R_search_197 : decode b_R_search 197 = .ok (.iload_n 3, 1) := by decide +kernel
theorem d_R_search_198 : decode b_R_search 198 = .ok (.iload 7, 2) := by decide +kernel
theorem d_R_search_200 : decode b_R_search 200 = .ok (.iastore, 1) := by decide +kernel
theorem d_R_search_201 : decode b_R_search 201 = .ok (.iinc 3 1, 3) := by decide +kernel
theorem d_R_search_204 : decode b_R_search 204 = .ok (.iinc 6 1, 3) := by decide +kernel
theorem d_R_search_207 : decode b_R_search 207 = .ok (.goto (-104), 3) := by decide +kernel
theorem d_R_search_210 : decode b_R_search 210 = .ok (.iinc 4 1, 3) := by decide +kernel
theorem d_R_search_213 : decode b_R_search 213 = .ok (.goto (-169), 3) := by decide +kernel
theorem d_R_search_216 : decode b_R_search 216 = .ok (.iconst (-1), 1) := by decide +kernel
theorem d_R_search_217 : decode b_R_search 217 = .ok (.ireturn, 1) := by decide +kernel
theorem d_R_settle_0 : decode b_R_settle 0 = .ok (.iconst 1, 1) := by decide +kernel
theorem d_R_settle_1 : decode b_R_settle 1 = .ok (.istore_n 2, 1) := by decide +kernel
theorem d_R_settle_2 : decode b_R_settle 2 = .ok (.iload_n 2, 1) := by decide +kernel
theorem d_R_settle_3 : decode b_R_settle 3 = .ok (.ifCond .eq 12, 3) := by decide +kernel
theorem d_R_settle_6 : decode b_R_settle 6 = .ok (.aload_n 0, 1) := by decide +kernel
theorem d_R_settle_7 : decode b_R_settle 7 = .ok (.iload_n 1, 1) := by decide +kernel
theorem d_R_settle_8 : decode b_R_settle 8 = .ok (.invokevirtual 128, 3) := by decide +kernel
theorem d_R_settle_11 : decode b_R_settle 11 = .ok (.istore_n 2, 1) := by decide +kernel
theorem d_R_settle_12 : decode b_R_settle 12 = .ok (.goto (-10), 3) := by decide +kernel
theorem d_R_settle_15 : decode b_R_settle 15 = .ok (.return_, 1) := by decide +kernel
theorem d_R_takesOut_0 : decode b_R_takesOut 0 = .ok (.iconst 1, 1) := by decide +kernel
theorem d_R_takesOut_1 : decode b_R_takesOut 1 = .ok (.istore_n 2, 1) := by decide +kernel
theorem d_R_takesOut_2 : decode b_R_takesOut 2 = .ok (.iconst 0, 1) := by decide +kernel
theorem d_R_takesOut_3 : decode b_R_takesOut 3 = .ok (.istore_n 3, 1) := by decide +kernel
theorem d_R_takesOut_4 : decode b_R_takesOut 4 = .ok (.iload_n 3, 1) := by decide +kernel
theorem d_R_takesOut_5 : decode b_R_takesOut 5 = .ok (.aload_n 0, 1) := by decide +kernel
theorem d_R_takesOut_6 : decode b_R_takesOut 6 = .ok (.getfield 35, 3) := by decide +kernel
theorem d_R_takesOut_9 : decode b_R_takesOut 9 = .ok (.iload_n 1, 1) := by decide +kernel
theorem d_R_takesOut_10 : decode b_R_takesOut 10 = .ok (.iaload, 1) := by decide +kernel
theorem d_R_takesOut_11 : decode b_R_takesOut 11 = .ok (.if_icmp .ge 56, 3) := by decide +kernel
theorem d_R_takesOut_14 : decode b_R_takesOut 14 = .ok (.aload_n 0, 1) := by decide +kernel
theorem d_R_takesOut_15 : decode b_R_takesOut 15 = .ok (.getfield 53, 3) := by decide +kernel
theorem d_R_takesOut_18 : decode b_R_takesOut 18 = .ok (.sipush 200, 3) := by decide +kernel
theorem d_R_takesOut_21 : decode b_R_takesOut 21 = .ok (.iload_n 1, 1) := by decide +kernel
theorem d_R_takesOut_22 : decode b_R_takesOut 22 = .ok (.imul, 1) := by decide +kernel
theorem d_R_takesOut_23 : decode b_R_takesOut 23 = .ok (.iload_n 3, 1) := by decide +kernel
theorem d_R_takesOut_24 : decode b_R_takesOut 24 = .ok (.iadd, 1) := by decide +kernel
theorem d_R_takesOut_25 : decode b_R_takesOut 25 = .ok (.aload_n 0, 1) := by decide +kernel
theorem d_R_takesOut_26 : decode b_R_takesOut 26 = .ok (.getfield 50, 3) := by decide +kernel
theorem d_R_takesOut_29 : decode b_R_takesOut 29 = .ok (.sipush 200, 3) := by decide +kernel
theorem d_R_takesOut_32 : decode b_R_takesOut 32 = .ok (.iload_n 1, 1) := by decide +kernel
theorem d_R_takesOut_33 : decode b_R_takesOut 33 = .ok (.imul, 1) := by decide +kernel
theorem d_R_takesOut_34 : decode b_R_takesOut 34 = .ok (.iload_n 3, 1) := by decide +kernel
theorem d_R_takesOut_35 : decode b_R_takesOut 35 = .ok (.iadd, 1) := by decide +kernel
theorem d_R_takesOut_36 : decode b_R_takesOut 36 = .ok (.baload, 1) := by decide +kernel
theorem d_R_takesOut_37 : decode b_R_takesOut 37 = .ok (.ifCond .ne 22, 3) := by decide +kernel
theorem d_R_takesOut_40 : decode b_R_takesOut 40 = .ok (.aload_n 0, 1) := by decide +kernel
theorem d_R_takesOut_41 : decode b_R_takesOut 41 = .ok (.getfield 47, 3) := by decide +kernel
theorem d_R_takesOut_44 : decode b_R_takesOut 44 = .ok (.sipush 200, 3) := by decide +kernel
theorem d_R_takesOut_47 : decode b_R_takesOut 47 = .ok (.iload_n 1, 1) := by decide +kernel
theorem d_R_takesOut_48 : decode b_R_takesOut 48 = .ok (.imul, 1) := by decide +kernel
theorem d_R_takesOut_49 : decode b_R_takesOut 49 = .ok (.iload_n 3, 1) := by decide +kernel
theorem d_R_takesOut_50 : decode b_R_takesOut 50 = .ok (.iadd, 1) := by decide +kernel
theorem d_R_takesOut_51 : decode b_R_takesOut 51 = .ok (.baload, 1) := by decide +kernel
theorem d_R_takesOut_52 : decode b_R_takesOut 52 = .ok (.ifCond .eq 7, 3) := by decide +kernel
theorem d_R_takesOut_55 : decode b_R_takesOut 55 = .ok (.iconst 1, 1) := by decide +kernel
theorem d_R_takesOut_56 : decode b_R_takesOut 56 = .ok (.goto 4, 3) := by decide +kernel
theorem d_R_takesOut_59 : decode b_R_takesOut 59 = .ok (.iconst 0, 1) := by decide +kernel
theorem d_R_takesOut_60 : decode b_R_takesOut 60 = .ok (.bastore, 1) := by decide +kernel
theorem d_R_takesOut_61 : decode b_R_takesOut 61 = .ok (.iinc 3 1, 3) := by decide +kernel
theorem d_R_takesOut_64 : decode b_R_takesOut 64 = .ok (.goto (-60), 3) := by decide +kernel
theorem d_R_takesOut_67 : decode b_R_takesOut 67 = .ok (.iload_n 2, 1) := by decide +kernel
theorem d_R_takesOut_68 : decode b_R_takesOut 68 = .ok (.ifCond .eq 156, 3) := by decide +kernel
theorem d_R_takesOut_71 : decode b_R_takesOut 71 = .ok (.iconst 0, 1) := by decide +kernel
theorem d_R_takesOut_72 : decode b_R_takesOut 72 = .ok (.istore_n 2, 1) := by decide +kernel
theorem d_R_takesOut_73 : decode b_R_takesOut 73 = .ok (.iconst 0, 1) := by decide +kernel
theorem d_R_takesOut_74 : decode b_R_takesOut 74 = .ok (.istore_n 3, 1) := by decide +kernel
theorem d_R_takesOut_75 : decode b_R_takesOut 75 = .ok (.iload_n 3, 1) := by decide +kernel
theorem d_R_takesOut_76 : decode b_R_takesOut 76 = .ok (.aload_n 0, 1) := by decide +kernel
theorem d_R_takesOut_77 : decode b_R_takesOut 77 = .ok (.getfield 35, 3) := by decide +kernel
theorem d_R_takesOut_80 : decode b_R_takesOut 80 = .ok (.iload_n 1, 1) := by decide +kernel
theorem d_R_takesOut_81 : decode b_R_takesOut 81 = .ok (.iaload, 1) := by decide +kernel
theorem d_R_takesOut_82 : decode b_R_takesOut 82 = .ok (.if_icmp .ge 139, 3) := by decide +kernel
theorem d_R_takesOut_85 : decode b_R_takesOut 85 = .ok (.sipush 200, 3) := by decide +kernel
theorem d_R_takesOut_88 : decode b_R_takesOut 88 = .ok (.iload_n 1, 1) := by decide +kernel
theorem d_R_takesOut_89 : decode b_R_takesOut 89 = .ok (.imul, 1) := by decide +kernel
theorem d_R_takesOut_90 : decode b_R_takesOut 90 = .ok (.iload_n 3, 1) := by decide +kernel
theorem d_R_takesOut_91 : decode b_R_takesOut 91 = .ok (.iadd, 1) := by decide +kernel
theorem d_R_takesOut_92 : decode b_R_takesOut 92 = .ok (.istore 4, 2) := by decide +kernel
theorem d_R_takesOut_94 : decode b_R_takesOut 94 = .ok (.aload_n 0, 1) := by decide +kernel
theorem d_R_takesOut_95 : decode b_R_takesOut 95 = .ok (.getfield 53, 3) := by decide +kernel
theorem d_R_takesOut_98 : decode b_R_takesOut 98 = .ok (.iload 4, 2) := by decide +kernel
theorem d_R_takesOut_100 : decode b_R_takesOut 100 = .ok (.baload, 1) := by decide +kernel
theorem d_R_takesOut_101 : decode b_R_takesOut 101 = .ok (.istore 5, 2) := by decide +kernel
theorem d_R_takesOut_103 : decode b_R_takesOut 103 = .ok (.iconst 0, 1) := by decide +kernel
theorem d_R_takesOut_104 : decode b_R_takesOut 104 = .ok (.istore 6, 2) := by decide +kernel
theorem d_R_takesOut_106 : decode b_R_takesOut 106 = .ok (.iload 6, 2) := by decide +kernel
theorem d_R_takesOut_108 : decode b_R_takesOut 108 = .ok (.bipush 12, 2) := by decide +kernel
theorem d_R_takesOut_110 : decode b_R_takesOut 110 = .ok (.if_icmp .ge 74, 3) := by decide +kernel
theorem d_R_takesOut_113 : decode b_R_takesOut 113 = .ok (.aload_n 0, 1) := by decide +kernel
theorem d_R_takesOut_114 : decode b_R_takesOut 114 = .ok (.getfield 50, 3) := by decide +kernel
theorem d_R_takesOut_117 : decode b_R_takesOut 117 = .ok (.iload 4, 2) := by decide +kernel
theorem d_R_takesOut_119 : decode b_R_takesOut 119 = .ok (.baload, 1) := by decide +kernel
theorem d_R_takesOut_120 : decode b_R_takesOut 120 = .ok (.ifCond .ne 64, 3) := by decide +kernel
theorem d_R_takesOut_123 : decode b_R_takesOut 123 = .ok (.iload 5, 2) := by decide +kernel
theorem d_R_takesOut_125 : decode b_R_takesOut 125 = .ok (.ifCond .ne 46, 3) := by decide +kernel
theorem d_R_takesOut_128 : decode b_R_takesOut 128 = .ok (.aload_n 0, 1) := by decide +kernel
theorem d_R_takesOut_129 : decode b_R_takesOut 129 = .ok (.getfield 41, 3) := by decide +kernel
theorem d_R_takesOut_132 : decode b_R_takesOut 132 = .ok (.bipush 12, 2) := by decide +kernel
theorem d_R_takesOut_134 : decode b_R_takesOut 134 = .ok (.iload 4, 2) := by decide +kernel
theorem d_R_takesOut_136 : decode b_R_takesOut 136 = .ok (.imul, 1) := by decide +kernel
theorem d_R_takesOut_137 : decode b_R_takesOut 137 = .ok (.iload 6, 2) := by decide +kernel
theorem d_R_takesOut_139 : decode b_R_takesOut 139 = .ok (.iadd, 1) := by decide +kernel
theorem d_R_takesOut_140 : decode b_R_takesOut 140 = .ok (.iaload, 1) := by decide +kernel
theorem d_R_takesOut_141 : decode b_R_takesOut 141 = .ok (.ifCond .lt 34, 3) := by decide +kernel
theorem d_R_takesOut_144 : decode b_R_takesOut 144 = .ok (.aload_n 0, 1) := by decide +kernel
theorem d_R_takesOut_145 : decode b_R_takesOut 145 = .ok (.getfield 53, 3) := by decide +kernel
theorem d_R_takesOut_148 : decode b_R_takesOut 148 = .ok (.sipush 200, 3) := by decide +kernel
theorem d_R_takesOut_151 : decode b_R_takesOut 151 = .ok (.iload_n 1, 1) := by decide +kernel
theorem d_R_takesOut_152 : decode b_R_takesOut 152 = .ok (.imul, 1) := by decide +kernel
theorem d_R_takesOut_153 : decode b_R_takesOut 153 = .ok (.aload_n 0, 1) := by decide +kernel
theorem d_R_takesOut_154 : decode b_R_takesOut 154 = .ok (.getfield 41, 3) := by decide +kernel
theorem d_R_takesOut_157 : decode b_R_takesOut 157 = .ok (.bipush 12, 2) := by decide +kernel
theorem d_R_takesOut_159 : decode b_R_takesOut 159 = .ok (.iload 4, 2) := by decide +kernel
theorem d_R_takesOut_161 : decode b_R_takesOut 161 = .ok (.imul, 1) := by decide +kernel
theorem d_R_takesOut_162 : decode b_R_takesOut 162 = .ok (.iload 6, 2) := by decide +kernel
theorem d_R_takesOut_164 : decode b_R_takesOut 164 = .ok (.iadd, 1) := by decide +kernel
theorem d_R_takesOut_165 : decode b_R_takesOut 165 = .ok (.iaload, 1) := by decide +kernel
theorem d_R_takesOut_166 : decode b_R_takesOut 166 = .ok (.iadd, 1) := by decide +kernel
theorem d_R_takesOut_167 : decode b_R_takesOut 167 = .ok (.baload, 1) := by decide +kernel
theorem d_R_takesOut_168 : decode b_R_takesOut 168 = .ok (.ifCond .eq 7, 3) := by decide +kernel
theorem d_R_takesOut_171 : decode b_R_takesOut 171 = .ok (.iconst 1, 1) := by decide +kernel
theorem d_R_takesOut_172 : decode b_R_takesOut 172 = .ok (.goto 4, 3) := by decide +kernel
theorem d_R_takesOut_175 : decode b_R_takesOut 175 = .ok (.iconst 0, 1) := by decide +kernel
theorem d_R_takesOut_176 : decode b_R_takesOut 176 = .ok (.istore 5, 2) := by decide +kernel
theorem d_R_takesOut_178 : decode b_R_takesOut 178 = .ok (.iinc 6 1, 3) := by decide +kernel
theorem d_R_takesOut_181 : decode b_R_takesOut 181 = .ok (.goto (-75), 3) := by decide +kernel
theorem d_R_takesOut_184 : decode b_R_takesOut 184 = .ok (.iload_n 2, 1) := by decide +kernel
theorem d_R_takesOut_185 : decode b_R_takesOut 185 = .ok (.ifCond .ne 15, 3) := by decide +kernel
theorem d_R_takesOut_188 : decode b_R_takesOut 188 = .ok (.iload 5, 2) := by decide +kernel
theorem d_R_takesOut_190 : decode b_R_takesOut 190 = .ok (.aload_n 0, 1) := by decide +kernel
theorem d_R_takesOut_191 : decode b_R_takesOut 191 = .ok (.getfield 53, 3) := by decide +kernel
theorem d_R_takesOut_194 : decode b_R_takesOut 194 = .ok (.iload 4, 2) := by decide +kernel
theorem d_R_takesOut_196 : decode b_R_takesOut 196 = .ok (.baload, 1) := by decide +kernel
theorem d_R_takesOut_197 : decode b_R_takesOut 197 = .ok (.if_icmp .eq 7, 3) := by decide +kernel
theorem d_R_takesOut_200 : decode b_R_takesOut 200 = .ok (.iconst 1, 1) := by decide +kernel
theorem d_R_takesOut_201 : decode b_R_takesOut 201 = .ok (.goto 4, 3) := by decide +kernel
theorem d_R_takesOut_204 : decode b_R_takesOut 204 = .ok (.iconst 0, 1) := by decide +kernel
theorem d_R_takesOut_205 : decode b_R_takesOut 205 = .ok (.istore_n 2, 1) := by decide +kernel
theorem d_R_takesOut_206 : decode b_R_takesOut 206 = .ok (.aload_n 0, 1) := by decide +kernel
theorem d_R_takesOut_207 : decode b_R_takesOut 207 = .ok (.getfield 53, 3) := by decide +kernel
theorem d_R_takesOut_210 : decode b_R_takesOut 210 = .ok (.iload 4, 2) := by decide +kernel
theorem d_R_takesOut_212 : decode b_R_takesOut 212 = .ok (.iload 5, 2) := by decide +kernel
theorem d_R_takesOut_214 : decode b_R_takesOut 214 = .ok (.bastore, 1) := by decide +kernel
theorem d_R_takesOut_215 : decode b_R_takesOut 215 = .ok (.iinc 3 1, 3) := by decide +kernel
theorem d_R_takesOut_218 : decode b_R_takesOut 218 = .ok (.goto (-143), 3) := by decide +kernel
theorem d_R_takesOut_221 : decode b_R_takesOut 221 = .ok (.goto (-154), 3) := by decide +kernel
theorem d_R_takesOut_224 : decode b_R_takesOut 224 = .ok (.iconst 0, 1) := by decide +kernel
theorem d_R_takesOut_225 : decode b_R_takesOut 225 = .ok (.istore_n 3, 1) := by decide +kernel
theorem d_R_takesOut_226 : decode b_R_takesOut 226 = .ok (.iload_n 3, 1) := by decide +kernel
theorem d_R_takesOut_227 : decode b_R_takesOut 227 = .ok (.aload_n 0, 1) := by decide +kernel
theorem d_R_takesOut_228 : decode b_R_takesOut 228 = .ok (.getfield 35, 3) := by decide +kernel
theorem d_R_takesOut_231 : decode b_R_takesOut 231 = .ok (.iload_n 1, 1) := by decide +kernel
theorem d_R_takesOut_232 : decode b_R_takesOut 232 = .ok (.iaload, 1) := by decide +kernel
theorem d_R_takesOut_233 : decode b_R_takesOut 233 = .ok (.if_icmp .ge 157, 3) := by decide +kernel
theorem d_R_takesOut_236 : decode b_R_takesOut 236 = .ok (.sipush 200, 3) := by decide +kernel
theorem d_R_takesOut_239 : decode b_R_takesOut 239 = .ok (.iload_n 1, 1) := by decide +kernel
theorem d_R_takesOut_240 : decode b_R_takesOut 240 = .ok (.imul, 1) := by decide +kernel
theorem d_R_takesOut_241 : decode b_R_takesOut 241 = .ok (.iload_n 3, 1) := by decide +kernel
theorem d_R_takesOut_242 : decode b_R_takesOut 242 = .ok (.iadd, 1) := by decide +kernel
theorem d_R_takesOut_243 : decode b_R_takesOut 243 = .ok (.istore 4, 2) := by decide +kernel
theorem d_R_takesOut_245 : decode b_R_takesOut 245 = .ok (.aload_n 0, 1) := by decide +kernel
theorem d_R_takesOut_246 : decode b_R_takesOut 246 = .ok (.getfield 53, 3) := by decide +kernel
theorem d_R_takesOut_249 : decode b_R_takesOut 249 = .ok (.iload 4, 2) := by decide +kernel
theorem d_R_takesOut_251 : decode b_R_takesOut 251 = .ok (.baload, 1) := by decide +kernel
theorem d_R_takesOut_252 : decode b_R_takesOut 252 = .ok (.ifCond .ne 7, 3) := by decide +kernel
theorem d_R_takesOut_255 : decode b_R_takesOut 255 = .ok (.iconst 1, 1) := by decide +kernel
theorem d_R_takesOut_256 : decode b_R_takesOut 256 = .ok (.goto 4, 3) := by decide +kernel
theorem d_R_takesOut_259 : decode b_R_takesOut 259 = .ok (.iconst 0, 1) := by decide +kernel
theorem d_R_takesOut_260 : decode b_R_takesOut 260 = .ok (.istore 5, 2) := by decide +kernel
theorem d_R_takesOut_262 : decode b_R_takesOut 262 = .ok (.iconst 0, 1) := by decide +kernel
theorem d_R_takesOut_263 : decode b_R_takesOut 263 = .ok (.istore 6, 2) := by decide +kernel
theorem d_R_takesOut_265 : decode b_R_takesOut 265 = .ok (.iload 6, 2) := by decide +kernel
theorem d_R_takesOut_267 : decode b_R_takesOut 267 = .ok (.bipush 12, 2) := by decide +kernel
theorem d_R_takesOut_269 : decode b_R_takesOut 269 = .ok (.if_icmp .ge 90, 3) := by decide +kernel
theorem d_R_takesOut_272 : decode b_R_takesOut 272 = .ok (.iload 5, 2) := by decide +kernel
theorem d_R_takesOut_274 : decode b_R_takesOut 274 = .ok (.ifCond .ne 72, 3) := by decide +kernel
theorem d_R_takesOut_277 : decode b_R_takesOut 277 = .ok (.aload_n 0, 1) := by decide +kernel
theorem d_R_takesOut_278 : decode b_R_takesOut 278 = .ok (.getfield 44, 3) := by decide +kernel
theorem d_R_takesOut_281 : decode b_R_takesOut 281 = .ok (.bipush 12, 2) := by decide +kernel
theorem d_R_takesOut_283 : decode b_R_takesOut 283 = .ok (.iload 4, 2) := by decide +kernel
theorem d_R_takesOut_285 : decode b_R_takesOut 285 = .ok (.imul, 1) := by decide +kernel
theorem d_R_takesOut_286 : decode b_R_takesOut 286 = .ok (.iload 6, 2) := by decide +kernel
theorem d_R_takesOut_288 : decode b_R_takesOut 288 = .ok (.iadd, 1) := by decide +kernel
theorem d_R_takesOut_289 : decode b_R_takesOut 289 = .ok (.baload, 1) := by decide +kernel
theorem d_R_takesOut_290 : decode b_R_takesOut 290 = .ok (.ifCond .eq 60, 3) := by decide +kernel
theorem d_R_takesOut_293 : decode b_R_takesOut 293 = .ok (.aload_n 0, 1) := by decide +kernel
theorem d_R_takesOut_294 : decode b_R_takesOut 294 = .ok (.getfield 32, 3) := by decide +kernel
theorem d_R_takesOut_297 : decode b_R_takesOut 297 = .ok (.iload 6, 2) := by decide +kernel
theorem d_R_takesOut_299 : decode b_R_takesOut 299 = .ok (.baload, 1) := by decide +kernel
theorem d_R_takesOut_300 : decode b_R_takesOut 300 = .ok (.ifCond .ne 50, 3) := by decide +kernel
theorem d_R_takesOut_303 : decode b_R_takesOut 303 = .ok (.aload_n 0, 1) := by decide +kernel
theorem d_R_takesOut_304 : decode b_R_takesOut 304 = .ok (.getfield 41, 3) := by decide +kernel
theorem d_R_takesOut_307 : decode b_R_takesOut 307 = .ok (.bipush 12, 2) := by decide +kernel
theorem d_R_takesOut_309 : decode b_R_takesOut 309 = .ok (.iload 4, 2) := by decide +kernel
theorem d_R_takesOut_311 : decode b_R_takesOut 311 = .ok (.imul, 1) := by decide +kernel
theorem d_R_takesOut_312 : decode b_R_takesOut 312 = .ok (.iload 6, 2) := by decide +kernel
theorem d_R_takesOut_314 : decode b_R_takesOut 314 = .ok (.iadd, 1) := by decide +kernel
theorem d_R_takesOut_315 : decode b_R_takesOut 315 = .ok (.iaload, 1) := by decide +kernel
theorem d_R_takesOut_316 : decode b_R_takesOut 316 = .ok (.ifCond .lt 30, 3) := by decide +kernel
theorem d_R_takesOut_319 : decode b_R_takesOut 319 = .ok (.aload_n 0, 1) := by decide +kernel
theorem d_R_takesOut_320 : decode b_R_takesOut 320 = .ok (.getfield 50, 3) := by decide +kernel
theorem d_R_takesOut_323 : decode b_R_takesOut 323 = .ok (.sipush 200, 3) := by decide +kernel
theorem d_R_takesOut_326 : decode b_R_takesOut 326 = .ok (.iload_n 1, 1) := by decide +kernel
theorem d_R_takesOut_327 : decode b_R_takesOut 327 = .ok (.imul, 1) := by decide +kernel
theorem d_R_takesOut_328 : decode b_R_takesOut 328 = .ok (.aload_n 0, 1) := by decide +kernel
theorem d_R_takesOut_329 : decode b_R_takesOut 329 = .ok (.getfield 41, 3) := by decide +kernel
theorem d_R_takesOut_332 : decode b_R_takesOut 332 = .ok (.bipush 12, 2) := by decide +kernel
theorem d_R_takesOut_334 : decode b_R_takesOut 334 = .ok (.iload 4, 2) := by decide +kernel
theorem d_R_takesOut_336 : decode b_R_takesOut 336 = .ok (.imul, 1) := by decide +kernel
theorem d_R_takesOut_337 : decode b_R_takesOut 337 = .ok (.iload 6, 2) := by decide +kernel
theorem d_R_takesOut_339 : decode b_R_takesOut 339 = .ok (.iadd, 1) := by decide +kernel
theorem d_R_takesOut_340 : decode b_R_takesOut 340 = .ok (.iaload, 1) := by decide +kernel
theorem d_R_takesOut_341 : decode b_R_takesOut 341 = .ok (.iadd, 1) := by decide +kernel
theorem d_R_takesOut_342 : decode b_R_takesOut 342 = .ok (.baload, 1) := by decide +kernel
theorem d_R_takesOut_343 : decode b_R_takesOut 343 = .ok (.ifCond .eq 7, 3) := by decide +kernel
theorem d_R_takesOut_346 : decode b_R_takesOut 346 = .ok (.iconst 1, 1) := by decide +kernel
theorem d_R_takesOut_347 : decode b_R_takesOut 347 = .ok (.goto 4, 3) := by decide +kernel
theorem d_R_takesOut_350 : decode b_R_takesOut 350 = .ok (.iconst 0, 1) := by decide +kernel
theorem d_R_takesOut_351 : decode b_R_takesOut 351 = .ok (.istore 5, 2) := by decide +kernel
theorem d_R_takesOut_353 : decode b_R_takesOut 353 = .ok (.iinc 6 1, 3) := by decide +kernel
theorem d_R_takesOut_356 : decode b_R_takesOut 356 = .ok (.goto (-91), 3) := by decide +kernel
theorem d_R_takesOut_359 : decode b_R_takesOut 359 = .ok (.aload_n 0, 1) := by decide +kernel
theorem d_R_takesOut_360 : decode b_R_takesOut 360 = .ok (.getfield 50, 3) := by decide +kernel
theorem d_R_takesOut_363 : decode b_R_takesOut 363 = .ok (.iload 4, 2) := by decide +kernel
theorem d_R_takesOut_365 : decode b_R_takesOut 365 = .ok (.baload, 1) := by decide +kernel
theorem d_R_takesOut_366 : decode b_R_takesOut 366 = .ok (.ifCond .ne 18, 3) := by decide +kernel
theorem d_R_takesOut_369 : decode b_R_takesOut 369 = .ok (.iload 5, 2) := by decide +kernel
theorem d_R_takesOut_371 : decode b_R_takesOut 371 = .ok (.ifCond .eq 13, 3) := by decide +kernel
theorem d_R_takesOut_374 : decode b_R_takesOut 374 = .ok (.aload_n 0, 1) := by decide +kernel
theorem d_R_takesOut_375 : decode b_R_takesOut 375 = .ok (.getfield 50, 3) := by decide +kernel
theorem d_R_takesOut_378 : decode b_R_takesOut 378 = .ok (.iload 4, 2) := by decide +kernel
theorem d_R_takesOut_380 : decode b_R_takesOut 380 = .ok (.iconst 1, 1) := by decide +kernel
theorem d_R_takesOut_381 : decode b_R_takesOut 381 = .ok (.bastore, 1) := by decide +kernel
theorem d_R_takesOut_382 : decode b_R_takesOut 382 = .ok (.iconst 1, 1) := by decide +kernel
theorem d_R_takesOut_383 : decode b_R_takesOut 383 = .ok (.istore_n 2, 1) := by decide +kernel
theorem d_R_takesOut_384 : decode b_R_takesOut 384 = .ok (.iinc 3 1, 3) := by decide +kernel
theorem d_R_takesOut_387 : decode b_R_takesOut 387 = .ok (.goto (-161), 3) := by decide +kernel
theorem d_R_takesOut_390 : decode b_R_takesOut 390 = .ok (.iload_n 2, 1) := by decide +kernel
theorem d_R_takesOut_391 : decode b_R_takesOut 391 = .ok (.ireturn, 1) := by decide +kernel
theorem d_R_takesPart_0 : decode b_R_takesPart 0 = .ok (.aload_n 0, 1) := by decide +kernel
theorem d_R_takesPart_1 : decode b_R_takesPart 1 = .ok (.getfield 13, 3) := by decide +kernel
theorem d_R_takesPart_4 : decode b_R_takesPart 4 = .ok (.iload_n 1, 1) := by decide +kernel
theorem d_R_takesPart_5 : decode b_R_takesPart 5 = .ok (.baload, 1) := by decide +kernel
theorem d_R_takesPart_6 : decode b_R_takesPart 6 = .ok (.ifCond .ne 12, 3) := by decide +kernel
theorem d_R_takesPart_9 : decode b_R_takesPart 9 = .ok (.iload_n 2, 1) := by decide +kernel
theorem d_R_takesPart_10 : decode b_R_takesPart 10 = .ok (.ifCond .lt 8, 3) := by decide +kernel
theorem d_R_takesPart_13 : decode b_R_takesPart 13 = .ok (.iload_n 1, 1) := by decide +kernel
theorem d_R_takesPart_14 : decode b_R_takesPart 14 = .ok (.iload_n 2, 1) := by decide +kernel
theorem d_R_takesPart_15 : decode b_R_takesPart 15 = .ok (.if_icmp .ne 7, 3) := by decide +kernel
theorem d_R_takesPart_18 : decode b_R_takesPart 18 = .ok (.iconst 1, 1) := by decide +kernel
theorem d_R_takesPart_19 : decode b_R_takesPart 19 = .ok (.goto 4, 3) := by decide +kernel
theorem d_R_takesPart_22 : decode b_R_takesPart 22 = .ok (.iconst 0, 1) := by decide +kernel
theorem d_R_takesPart_23 : decode b_R_takesPart 23 = .ok (.ireturn, 1) := by decide +kernel
theorem d_R_tell_0 : decode b_R_tell 0 = .ok (.aload_n 0, 1) := by decide +kernel
theorem d_R_tell_1 : decode b_R_tell 1 = .ok (.aload_n 0, 1) := by decide +kernel
theorem d_R_tell_2 : decode b_R_tell 2 = .ok (.iload_n 1, 1) := by decide +kernel
theorem d_R_tell_3 : decode b_R_tell 3 = .ok (.iload_n 2, 1) := by decide +kernel
theorem d_R_tell_4 : decode b_R_tell 4 = .ok (.invokevirtual 108, 3) := by decide +kernel
theorem d_R_tell_7 : decode b_R_tell 7 = .ok (.ifCond .ne 11, 3) := by decide +kernel
theorem d_R_tell_10 : decode b_R_tell 10 = .ok (.iload_n 3, 1) := by decide +kernel
theorem d_R_tell_11 : decode b_R_tell 11 = .ok (.iconst 3, 1) := by decide +kernel
theorem d_R_tell_12 : decode b_R_tell 12 = .ok (.invokestatic 94, 3) := by decide +kernel
theorem d_R_tell_15 : decode b_R_tell 15 = .ok (.ifCond .eq 7, 3) := by decide +kernel
theorem d_R_tell_18 : decode b_R_tell 18 = .ok (.iconst 1, 1) := by decide +kernel
theorem d_R_tell_19 : decode b_R_tell 19 = .ok (.goto 4, 3) := by decide +kernel
theorem d_R_tell_22 : decode b_R_tell 22 = .ok (.iconst 0, 1) := by decide +kernel
theorem d_R_tell_23 : decode b_R_tell 23 = .ok (.iconst 0, 1) := by decide +kernel
theorem d_R_tell_24 : decode b_R_tell 24 = .ok (.invokevirtual 101, 3) := by decide +kernel
theorem d_R_tell_27 : decode b_R_tell 27 = .ok (.ifCond .eq 4, 3) := by decide +kernel
theorem d_R_tell_30 : decode b_R_tell 30 = .ok (.return_, 1) := by decide +kernel
theorem d_R_tell_31 : decode b_R_tell 31 = .ok (.aload_n 0, 1) := by decide +kernel
theorem d_R_tell_32 : decode b_R_tell 32 = .ok (.invokevirtual 105, 3) := by decide +kernel
theorem d_R_tell_35 : decode b_R_tell 35 = .ok (.iload_n 3, 1) := by decide +kernel
theorem d_R_tell_36 : decode b_R_tell 36 = .ok (.ifCond .ne 34, 3) := by decide +kernel
theorem d_R_tell_39 : decode b_R_tell 39 = .ok (.iload 4, 2) := by decide +kernel
theorem d_R_tell_41 : decode b_R_tell 41 = .ok (.ifCond .ne 13, 3) := by decide +kernel
theorem d_R_tell_44 : decode b_R_tell 44 = .ok (.aload_n 0, 1) := by decide +kernel
theorem d_R_tell_45 : decode b_R_tell 45 = .ok (.getfield 17, 3) := by decide +kernel
theorem d_R_tell_48 : decode b_R_tell 48 = .ok (.iload_n 1, 1) := by decide +kernel
theorem d_R_tell_49 : decode b_R_tell 49 = .ok (.iaload, 1) := by decide +kernel
theorem d_R_tell_50 : decode b_R_tell 50 = .ok (.iload_n 2, 1) := by decide +kernel
theorem d_R_tell_51 : decode b_R_tell 51 = .ok (.if_icmp .ne 19, 3) := by decide +kernel
theorem d_R_tell_54 : decode b_R_tell 54 = .ok (.aload_n 0, 1) := by decide +kernel
theorem d_R_tell_55 : decode b_R_tell 55 = .ok (.getfield 17, 3) := by decide +kernel
theorem d_R_tell_58 : decode b_R_tell 58 = .ok (.iload_n 1, 1) := by decide +kernel
theorem d_R_tell_59 : decode b_R_tell 59 = .ok (.iload 4, 2) := by decide +kernel
theorem d_R_tell_61 : decode b_R_tell 61 = .ok (.ifCond .eq 7, 3) := by decide +kernel
theorem d_R_tell_64 : decode b_R_tell 64 = .ok (.iload_n 2, 1) := by decide +kernel
theorem d_R_tell_65 : decode b_R_tell 65 = .ok (.goto 4, 3) := by decide +kernel
theorem d_R_tell_68 : decode b_R_tell 68 = .ok (.iconst (-1), 1) := by decide +kernel
theorem d_R_tell_69 : decode b_R_tell 69 = .ok (.iastore, 1) := by decide +kernel
theorem d_R_tell_70 : decode b_R_tell 70 = .ok (.iload_n 3, 1) := by decide +kernel
theorem d_R_tell_71 : decode b_R_tell 71 = .ok (.iconst 1, 1) := by decide +kernel
theorem d_R_tell_72 : decode b_R_tell 72 = .ok (.if_icmp .ne 16, 3) := by decide +kernel
theorem d_R_tell_75 : decode b_R_tell 75 = .ok (.aload_n 0, 1) := by decide +kernel
theorem d_R_tell_76 : decode b_R_tell 76 = .ok (.getfield 20, 3) := by decide +kernel
theorem d_R_tell_79 : decode b_R_tell 79 = .ok (.bipush 6, 2) := by decide +kernel
theorem d_R_tell_81 : decode b_R_tell 81 = .ok (.iload_n 1, 1) := by decide +kernel
theorem d_R_tell_82 : decode b_R_tell 82 = .ok (.imul, 1) := by decide +kernel
theorem d_R_tell_83 : decode b_R_tell 83 = .ok (.iload_n 2, 1) := by decide +kernel
theorem d_R_tell_84 : decode b_R_tell 84 = .ok (.iadd, 1) := by decide +kernel
theorem d_R_tell_85 : decode b_R_tell 85 = .ok (.iload 4, 2) := by decide +kernel
theorem d_R_tell_87 : decode b_R_tell 87 = .ok (.bastore, 1) := by decide +kernel
theorem d_R_tell_88 : decode b_R_tell 88 = .ok (.iload_n 3, 1) := by decide +kernel
theorem d_R_tell_89 : decode b_R_tell 89 = .ok (.iconst 2, 1) := by decide +kernel
theorem d_R_tell_90 : decode b_R_tell 90 = .ok (.if_icmp .ne 16, 3) := by decide +kernel
theorem d_R_tell_93 : decode b_R_tell 93 = .ok (.aload_n 0, 1) := by decide +kernel
theorem d_R_tell_94 : decode b_R_tell 94 = .ok (.getfield 23, 3) := by decide +kernel
theorem d_R_tell_97 : decode b_R_tell 97 = .ok (.bipush 6, 2) := by decide +kernel
theorem d_R_tell_99 : decode b_R_tell 99 = .ok (.iload_n 1, 1) := by decide +kernel
theorem d_R_tell_100 : decode b_R_tell 100 = .ok (.imul, 1) := by decide +kernel
theorem d_R_tell_101 : decode b_R_tell 101 = .ok (.iload_n 2, 1) := by decide +kernel
theorem d_R_tell_102 : decode b_R_tell 102 = .ok (.iadd, 1) := by decide +kernel
theorem d_R_tell_103 : decode b_R_tell 103 = .ok (.iload 4, 2) := by decide +kernel
theorem d_R_tell_105 : decode b_R_tell 105 = .ok (.bastore, 1) := by decide +kernel
theorem d_R_tell_106 : decode b_R_tell 106 = .ok (.return_, 1) := by decide +kernel
theorem d_R_throwing_0 : decode b_R_throwing 0 = .ok (.aload_n 0, 1) := by decide +kernel
theorem d_R_throwing_1 : decode b_R_throwing 1 = .ok (.iload_n 1, 1) := by decide +kernel
theorem d_R_throwing_2 : decode b_R_throwing 2 = .ok (.ifCond .eq 7, 3) := by decide +kernel
theorem d_R_throwing_5 : decode b_R_throwing 5 = .ok (.iconst 1, 1) := by decide +kernel
theorem d_R_throwing_6 : decode b_R_throwing 6 = .ok (.goto 12, 3) := by decide +kernel
theorem d_R_throwing_9 : decode b_R_throwing 9 = .ok (.iload_n 2, 1) := by decide +kernel
theorem d_R_throwing_10 : decode b_R_throwing 10 = .ok (.ifCond .eq 7, 3) := by decide +kernel
theorem d_R_throwing_13 : decode b_R_throwing 13 = .ok (.iconst 2, 1) := by decide +kernel
theorem d_R_throwing_14 : decode b_R_throwing 14 = .ok (.goto 4, 3) := by decide +kernel
theorem d_R_throwing_17 : decode b_R_throwing 17 = .ok (.iconst 0, 1) := by decide +kernel
theorem d_R_throwing_18 : decode b_R_throwing 18 = .ok (.putfield 83, 3) := by decide +kernel
theorem d_R_throwing_21 : decode b_R_throwing 21 = .ok (.aload_n 0, 1) := by decide +kernel
theorem d_R_throwing_22 : decode b_R_throwing 22 = .ok (.getfield 83, 3) := by decide +kernel
theorem d_R_throwing_25 : decode b_R_throwing 25 = .ok (.ifCond .le 7, 3) := by decide +kernel
theorem d_R_throwing_28 : decode b_R_throwing 28 = .ok (.iconst 1, 1) := by decide +kernel
theorem d_R_throwing_29 : decode b_R_throwing 29 = .ok (.goto 4, 3) := by decide +kernel
theorem d_R_throwing_32 : decode b_R_throwing 32 = .ok (.iconst 0, 1) := by decide +kernel
theorem d_R_throwing_33 : decode b_R_throwing 33 = .ok (.ireturn, 1) := by decide +kernel
theorem d_R_thrown_0 : decode b_R_thrown 0 = .ok (.aload_n 0, 1) := by decide +kernel
theorem d_R_thrown_1 : decode b_R_thrown 1 = .ok (.getfield 83, 3) := by decide +kernel
theorem d_R_thrown_4 : decode b_R_thrown 4 = .ok (.ireturn, 1) := by decide +kernel
theorem d_R_why_0 : decode b_R_why 0 = .ok (.aload_n 0, 1) := by decide +kernel
theorem d_R_why_1 : decode b_R_why 1 = .ok (.aload_n 0, 1) := by decide +kernel
theorem d_R_why_2 : decode b_R_why 2 = .ok (.getfield 87, 3) := by decide +kernel
theorem d_R_why_5 : decode b_R_why 5 = .ok (.ifCond .ne 7, 3) := by decide +kernel
theorem d_R_why_8 : decode b_R_why 8 = .ok (.iconst 1, 1) := by decide +kernel
theorem d_R_why_9 : decode b_R_why 9 = .ok (.goto 4, 3) := by decide +kernel
theorem d_R_why_12 : decode b_R_why 12 = .ok (.iconst 0, 1) := by decide +kernel
theorem d_R_why_13 : decode b_R_why 13 = .ok (.iconst 0, 1) := by decide +kernel
theorem d_R_why_14 : decode b_R_why 14 = .ok (.invokevirtual 101, 3) := by decide +kernel
theorem d_R_why_17 : decode b_R_why 17 = .ok (.ifCond .eq 7, 3) := by decide +kernel
theorem d_R_why_20 : decode b_R_why 20 = .ok (.iconst 0, 1) := by decide +kernel
theorem d_R_why_21 : decode b_R_why 21 = .ok (.goto 7, 3) := by decide +kernel
theorem d_R_why_24 : decode b_R_why 24 = .ok (.aload_n 0, 1) := by decide +kernel
theorem d_R_why_25 : decode b_R_why 25 = .ok (.getfield 158, 3) := by decide +kernel
theorem d_R_why_28 : decode b_R_why 28 = .ok (.ireturn, 1) := by decide +kernel
theorem d_R_whyEvent_0 : decode b_R_whyEvent 0 = .ok (.aload_n 0, 1) := by decide +kernel
theorem d_R_whyEvent_1 : decode b_R_whyEvent 1 = .ok (.aload_n 0, 1) := by decide +kernel
theorem d_R_whyEvent_2 : decode b_R_whyEvent 2 = .ok (.getfield 87, 3) := by decide +kernel
theorem d_R_whyEvent_5 : decode b_R_whyEvent 5 = .ok (.ifCond .ne 7, 3) := by decide +kernel
theorem d_R_whyEvent_8 : decode b_R_whyEvent 8 = .ok (.iconst 1, 1) := by decide +kernel
theorem d_R_whyEvent_9 : decode b_R_whyEvent 9 = .ok (.goto 4, 3) := by decide +kernel
theorem d_R_whyEvent_12 : decode b_R_whyEvent 12 = .ok (.iconst 0, 1) := by decide +kernel
theorem d_R_whyEvent_13 : decode b_R_whyEvent 13 = .ok (.aload_n 0, 1) := by decide +kernel
theorem d_R_whyEvent_14 : decode b_R_whyEvent 14 = .ok (.getfield 87, 3) := by decide +kernel
theorem d_R_whyEvent_17 : decode b_R_whyEvent 17 = .ok (.ifCond .eq 18, 3) := by decide +kernel
theorem d_R_whyEvent_20 : decode b_R_whyEvent 20 = .ok (.iload_n 1, 1) := by decide +kernel
theorem d_R_whyEvent_21 : decode b_R_whyEvent 21 = .ok (.aload_n 0, 1) := by decide +kernel
theorem d_R_whyEvent_22 : decode b_R_whyEvent 22 = .ok (.getfield 158, 3) := by decide +kernel
theorem d_R_whyEvent_25 : decode b_R_whyEvent 25 = .ok (.invokestatic 94, 3) := by decide +kernel
theorem d_R_whyEvent_28 : decode b_R_whyEvent 28 = .ok (.ifCond .eq 7, 3) := by decide +kernel
theorem d_R_whyEvent_31 : decode b_R_whyEvent 31 = .ok (.iconst 1, 1) := by decide +kernel
theorem d_R_whyEvent_32 : decode b_R_whyEvent 32 = .ok (.goto 4, 3) := by decide +kernel
theorem d_R_whyEvent_35 : decode b_R_whyEvent 35 = .ok (.iconst 0, 1) := by decide +kernel
theorem d_R_whyEvent_36 : decode b_R_whyEvent 36 = .ok (.invokevirtual 101, 3) := by decide +kernel
theorem d_R_whyEvent_39 : decode b_R_whyEvent 39 = .ok (.ifCond .eq 7, 3) := by decide +kernel
theorem d_R_whyEvent_42 : decode b_R_whyEvent 42 = .ok (.iconst 0, 1) := by decide +kernel
theorem d_R_whyEvent_43 : decode b_R_whyEvent 43 = .ok (.goto 9, 3) := by decide +kernel
theorem d_R_whyEvent_46 : decode b_R_whyEvent 46 = .ok (.aload_n 0, 1) := by decide +kernel
theorem d_R_whyEvent_47 : decode b_R_whyEvent 47 = .ok (.getfield 74, 3) := by decide +kernel
theorem d_R_whyEvent_50 : decode b_R_whyEvent 50 = .ok (.iload_n 1, 1) := by decide +kernel
theorem d_R_whyEvent_51 : decode b_R_whyEvent 51 = .ok (.iaload, 1) := by decide +kernel
theorem d_R_whyEvent_52 : decode b_R_whyEvent 52 = .ok (.ireturn, 1) := by decide +kernel
end
section
theorem d_L_act_0 : decode b_L_act 0 = .ok (.aload_n 2, 1) := by decide +kernel
theorem d_L_act_1 : decode b_L_act 1 = .ok (.iconst 0, 1) := by decide +kernel
theorem d_L_act_2 : decode b_L_act 2 = .ok (.aload_n 0, 1) := by decide +kernel
theorem d_L_act_3 : decode b_L_act 3 = .ok (.iload_n 1, 1) := by decide +kernel
theorem d_L_act_4 : decode b_L_act 4 = .ok (.invokevirtual 54, 3) := by decide +kernel
theorem d_L_act_7 : decode b_L_act 7 = .ok (.i2l, 1) := by decide +kernel
theorem d_L_act_8 : decode b_L_act 8 = .ok (.lastore, 1) := by decide +kernel
theorem d_L_act_9 : decode b_L_act 9 = .ok (.goto 9, 3) := by decide +kernel
theorem d_L_act_12 : decode b_L_act 12 = .ok (.astore_n 3, 1) := by decide +kernel
theorem d_L_act_13 : decode b_L_act 13 = .ok (.iconst 1, 1) := by decide +kernel
theorem d_L_act_14 : decode b_L_act 14 = .ok (.ireturn, 1) := by decide +kernel
theorem d_L_act_15 : decode b_L_act 15 = .ok (.astore_n 3, 1) := by decide +kernel
theorem d_L_act_16 : decode b_L_act 16 = .ok (.iconst 2, 1) := by decide +kernel
theorem d_L_act_17 : decode b_L_act 17 = .ok (.ireturn, 1) := by decide +kernel
theorem d_L_act_18 : decode b_L_act 18 = .ok (.iconst 0, 1) := by decide +kernel
theorem d_L_act_19 : decode b_L_act 19 = .ok (.ireturn, 1) := by decide +kernel
theorem d_L_allowed_0 : decode b_L_allowed 0 = .ok (.aload_n 1, 1) := by decide +kernel
theorem d_L_allowed_1 : decode b_L_allowed 1 = .ok (.iconst 0, 1) := by decide +kernel
theorem d_L_allowed_2 : decode b_L_allowed 2 = .ok (.aload_n 0, 1) := by decide +kernel
theorem d_L_allowed_3 : decode b_L_allowed 3 = .ok (.invokevirtual 63, 3) := by decide +kernel
theorem d_L_allowed_6 : decode b_L_allowed 6 = .ok (.i2l, 1) := by decide +kernel
theorem d_L_allowed_7 : decode b_L_allowed 7 = .ok (.lastore, 1) := by decide +kernel
theorem d_L_allowed_8 : decode b_L_allowed 8 = .ok (.goto 6, 3) := by decide +kernel
theorem d_L_allowed_11 : decode b_L_allowed 11 = .ok (.astore_n 2, 1) := by decide +kernel
theorem d_L_allowed_12 : decode b_L_allowed 12 = .ok (.iconst 1, 1) := by decide +kernel
theorem d_L_allowed_13 : decode b_L_allowed 13 = .ok (.ireturn, 1) := by decide +kernel
theorem d_L_allowed_14 : decode b_L_allowed 14 = .ok (.iconst 0, 1) := by decide +kernel
theorem d_L_allowed_15 : decode b_L_allowed 15 = .ok (.ireturn, 1) := by decide +kernel
theorem d_L_automaton_0 : decode b_L_automaton 0 = .ok (.aload_n 3, 1) := by decide +kernel
theorem d_L_automaton_1 : decode b_L_automaton 1 = .ok (.iconst 0, 1) := by decide +kernel
theorem d_L_automaton_2 : decode b_L_automaton 2 = .ok (.aload_n 0, 1) := by decide +kernel
theorem d_L_automaton_3 : decode b_L_automaton 3 = .ok (.iload_n 1, 1) := by decide +kernel
theorem d_L_automaton_4 : decode b_L_automaton 4 = .ok (.iload_n 2, 1) := by decide +kernel
theorem d_L_automaton_5 : decode b_L_automaton 5 = .ok (.invokevirtual 7, 3) := by decide +kernel
theorem d_L_automaton_8 : decode b_L_automaton 8 = .ok (.i2l, 1) := by decide +kernel
theorem d_L_automaton_9 : decode b_L_automaton 9 = .ok (.lastore, 1) := by decide +kernel
theorem d_L_automaton_10 : decode b_L_automaton 10 = .ok (.goto 11, 3) := by decide +kernel
theorem d_L_automaton_13 : decode b_L_automaton 13 = .ok (.astore 4, 2) := by decide +kernel
theorem d_L_automaton_15 : decode b_L_automaton 15 = .ok (.iconst 1, 1) := by decide +kernel
theorem d_L_automaton_16 : decode b_L_automaton 16 = .ok (.ireturn, 1) := by decide +kernel
theorem d_L_automaton_17 : decode b_L_automaton 17 = .ok (.astore 4, 2) := by decide +kernel
theorem d_L_automaton_19 : decode b_L_automaton 19 = .ok (.iconst 2, 1) := by decide +kernel
theorem d_L_automaton_20 : decode b_L_automaton 20 = .ok (.ireturn, 1) := by decide +kernel
theorem d_L_automaton_21 : decode b_L_automaton 21 = .ok (.iconst 0, 1) := by decide +kernel
theorem d_L_automaton_22 : decode b_L_automaton 22 = .ok (.ireturn, 1) := by decide +kernel
theorem d_L_conflict_0 : decode b_L_conflict 0 = .ok (.aload_n 3, 1) := by decide +kernel
theorem d_L_conflict_1 : decode b_L_conflict 1 = .ok (.iconst 0, 1) := by decide +kernel
theorem d_L_conflict_2 : decode b_L_conflict 2 = .ok (.aload_n 0, 1) := by decide +kernel
theorem d_L_conflict_3 : decode b_L_conflict 3 = .ok (.iload_n 1, 1) := by decide +kernel
theorem d_L_conflict_4 : decode b_L_conflict 4 = .ok (.iload_n 2, 1) := by decide +kernel
theorem d_L_conflict_5 : decode b_L_conflict 5 = .ok (.invokevirtual 51, 3) := by decide +kernel
theorem d_L_conflict_8 : decode b_L_conflict 8 = .ok (.i2l, 1) := by decide +kernel
theorem d_L_conflict_9 : decode b_L_conflict 9 = .ok (.lastore, 1) := by decide +kernel
theorem d_L_conflict_10 : decode b_L_conflict 10 = .ok (.goto 7, 3) := by decide +kernel
theorem d_L_conflict_13 : decode b_L_conflict 13 = .ok (.astore 4, 2) := by decide +kernel
theorem d_L_conflict_15 : decode b_L_conflict 15 = .ok (.iconst 1, 1) := by decide +kernel
theorem d_L_conflict_16 : decode b_L_conflict 16 = .ok (.ireturn, 1) := by decide +kernel
theorem d_L_conflict_17 : decode b_L_conflict 17 = .ok (.iconst 0, 1) := by decide +kernel
theorem d_L_conflict_18 : decode b_L_conflict 18 = .ok (.ireturn, 1) := by decide +kernel
theorem d_L_edge_0 : decode b_L_edge 0 = .ok (.aload_n 0, 1) := by decide +kernel
theorem d_L_edge_1 : decode b_L_edge 1 = .ok (.iload_n 1, 1) := by decide +kernel
theorem d_L_edge_2 : decode b_L_edge 2 = .ok (.iload_n 2, 1) := by decide +kernel
theorem d_L_edge_3 : decode b_L_edge 3 = .ok (.iload_n 3, 1) := by decide +kernel
theorem d_L_edge_4 : decode b_L_edge 4 = .ok (.iload 4, 2) := by decide +kernel
theorem d_L_edge_6 : decode b_L_edge 6 = .ok (.invokevirtual 21, 3) := by decide +kernel
theorem d_L_edge_9 : decode b_L_edge 9 = .ok (.goto 11, 3) := by decide +kernel
theorem d_L_edge_12 : decode b_L_edge 12 = .ok (.astore 5, 2) := by decide +kernel
theorem d_L_edge_14 : decode b_L_edge 14 = .ok (.iconst 1, 1) := by decide +kernel
theorem d_L_edge_15 : decode b_L_edge 15 = .ok (.ireturn, 1) := by decide +kernel
theorem d_L_edge_16 : decode b_L_edge 16 = .ok (.astore 5, 2) := by decide +kernel
theorem d_L_edge_18 : decode b_L_edge 18 = .ok (.iconst 2, 1) := by decide +kernel
theorem d_L_edge_19 : decode b_L_edge 19 = .ok (.ireturn, 1) := by decide +kernel
theorem d_L_edge_20 : decode b_L_edge 20 = .ok (.iconst 0, 1) := by decide +kernel
theorem d_L_edge_21 : decode b_L_edge 21 = .ok (.ireturn, 1) := by decide +kernel
theorem d_L_event_0 : decode b_L_event 0 = .ok (.aload_n 3, 1) := by decide +kernel
theorem d_L_event_1 : decode b_L_event 1 = .ok (.iconst 0, 1) := by decide +kernel
theorem d_L_event_2 : decode b_L_event 2 = .ok (.aload_n 0, 1) := by decide +kernel
theorem d_L_event_3 : decode b_L_event 3 = .ok (.iload_n 1, 1) := by decide +kernel
theorem d_L_event_4 : decode b_L_event 4 = .ok (.iload_n 2, 1) := by decide +kernel
theorem d_L_event_5 : decode b_L_event 5 = .ok (.invokevirtual 17, 3) := by decide +kernel
theorem d_L_event_8 : decode b_L_event 8 = .ok (.ifCond .eq 7, 3) := by decide +kernel
theorem d_L_event_11 : decode b_L_event 11 = .ok (.lconst 1, 1) := by decide +kernel
theorem d_L_event_12 : decode b_L_event 12 = .ok (.goto 4, 3) := by decide +kernel
theorem d_L_event_15 : decode b_L_event 15 = .ok (.lconst 0, 1) := by decide +kernel
theorem d_L_event_16 : decode b_L_event 16 = .ok (.lastore, 1) := by decide +kernel
theorem d_L_event_17 : decode b_L_event 17 = .ok (.goto 11, 3) := by decide +kernel
theorem d_L_event_20 : decode b_L_event 20 = .ok (.astore 4, 2) := by decide +kernel
theorem d_L_event_22 : decode b_L_event 22 = .ok (.iconst 1, 1) := by decide +kernel
theorem d_L_event_23 : decode b_L_event 23 = .ok (.ireturn, 1) := by decide +kernel
theorem d_L_event_24 : decode b_L_event 24 = .ok (.astore 4, 2) := by decide +kernel
theorem d_L_event_26 : decode b_L_event 26 = .ok (.iconst 2, 1) := by decide +kernel
theorem d_L_event_27 : decode b_L_event 27 = .ok (.ireturn, 1) := by decide +kernel
theorem d_L_event_28 : decode b_L_event 28 = .ok (.iconst 0, 1) := by decide +kernel
theorem d_L_event_29 : decode b_L_event 29 = .ok (.ireturn, 1) := by decide +kernel
theorem d_L_here_0 : decode b_L_here 0 = .ok (.aload_n 1, 1) := by decide +kernel
theorem d_L_here_1 : decode b_L_here 1 = .ok (.iconst 0, 1) := by decide +kernel
theorem d_L_here_2 : decode b_L_here 2 = .ok (.aload_n 0, 1) := by decide +kernel
theorem d_L_here_3 : decode b_L_here 3 = .ok (.invokevirtual 60, 3) := by decide +kernel
theorem d_L_here_6 : decode b_L_here 6 = .ok (.i2l, 1) := by decide +kernel
theorem d_L_here_7 : decode b_L_here 7 = .ok (.lastore, 1) := by decide +kernel
theorem d_L_here_8 : decode b_L_here 8 = .ok (.goto 6, 3) := by decide +kernel
theorem d_L_here_11 : decode b_L_here 11 = .ok (.astore_n 2, 1) := by decide +kernel
theorem d_L_here_12 : decode b_L_here 12 = .ok (.iconst 1, 1) := by decide +kernel
theorem d_L_here_13 : decode b_L_here 13 = .ok (.ireturn, 1) := by decide +kernel
theorem d_L_here_14 : decode b_L_here 14 = .ok (.iconst 0, 1) := by decide +kernel
theorem d_L_here_15 : decode b_L_here 15 = .ok (.ireturn, 1) := by decide +kernel
theorem d_L_home_0 : decode b_L_home 0 = .ok (.aload_n 1, 1) := by decide +kernel
theorem d_L_home_1 : decode b_L_home 1 = .ok (.iconst 0, 1) := by decide +kernel
theorem d_L_home_2 : decode b_L_home 2 = .ok (.aload_n 0, 1) := by decide +kernel
theorem d_L_home_3 : decode b_L_home 3 = .ok (.invokevirtual 66, 3) := by decide +kernel
theorem d_L_home_6 : decode b_L_home 6 = .ok (.i2l, 1) := by decide +kernel
theorem d_L_home_7 : decode b_L_home 7 = .ok (.lastore, 1) := by decide +kernel
theorem d_L_home_8 : decode b_L_home 8 = .ok (.goto 6, 3) := by decide +kernel
theorem d_L_home_11 : decode b_L_home 11 = .ok (.astore_n 2, 1) := by decide +kernel
theorem d_L_home_12 : decode b_L_home 12 = .ok (.iconst 1, 1) := by decide +kernel
theorem d_L_home_13 : decode b_L_home 13 = .ok (.ireturn, 1) := by decide +kernel
theorem d_L_home_14 : decode b_L_home 14 = .ok (.iconst 0, 1) := by decide +kernel
theorem d_L_home_15 : decode b_L_home 15 = .ok (.ireturn, 1) := by decide +kernel
theorem d_L_leads_0 : decode b_L_leads 0 = .ok (.aload_n 3, 1) := by decide +kernel
theorem d_L_leads_1 : decode b_L_leads 1 = .ok (.iconst 0, 1) := by decide +kernel
theorem d_L_leads_2 : decode b_L_leads 2 = .ok (.aload_n 0, 1) := by decide +kernel
theorem d_L_leads_3 : decode b_L_leads 3 = .ok (.iload_n 1, 1) := by decide +kernel
theorem d_L_leads_4 : decode b_L_leads 4 = .ok (.iload_n 2, 1) := by decide +kernel
theorem d_L_leads_5 : decode b_L_leads 5 = .ok (.invokevirtual 32, 3) := by decide +kernel
theorem d_L_leads_8 : decode b_L_leads 8 = .ok (.i2l, 1) := by decide +kernel
theorem d_L_leads_9 : decode b_L_leads 9 = .ok (.lastore, 1) := by decide +kernel
theorem d_L_leads_10 : decode b_L_leads 10 = .ok (.goto 11, 3) := by decide +kernel
theorem d_L_leads_13 : decode b_L_leads 13 = .ok (.astore 4, 2) := by decide +kernel
theorem d_L_leads_15 : decode b_L_leads 15 = .ok (.iconst 1, 1) := by decide +kernel
theorem d_L_leads_16 : decode b_L_leads 16 = .ok (.ireturn, 1) := by decide +kernel
theorem d_L_leads_17 : decode b_L_leads 17 = .ok (.astore 4, 2) := by decide +kernel
theorem d_L_leads_19 : decode b_L_leads 19 = .ok (.iconst 2, 1) := by decide +kernel
theorem d_L_leads_20 : decode b_L_leads 20 = .ok (.ireturn, 1) := by decide +kernel
theorem d_L_leads_21 : decode b_L_leads 21 = .ok (.iconst 0, 1) := by decide +kernel
theorem d_L_leads_22 : decode b_L_leads 22 = .ok (.ireturn, 1) := by decide +kernel
theorem d_L_many_0 : decode b_L_many 0 = .ok (.aload_n 2, 1) := by decide +kernel
theorem d_L_many_1 : decode b_L_many 1 = .ok (.iconst 0, 1) := by decide +kernel
theorem d_L_many_2 : decode b_L_many 2 = .ok (.aload_n 0, 1) := by decide +kernel
theorem d_L_many_3 : decode b_L_many 3 = .ok (.iload_n 1, 1) := by decide +kernel
theorem d_L_many_4 : decode b_L_many 4 = .ok (.invokevirtual 38, 3) := by decide +kernel
theorem d_L_many_7 : decode b_L_many 7 = .ok (.i2l, 1) := by decide +kernel
theorem d_L_many_8 : decode b_L_many 8 = .ok (.lastore, 1) := by decide +kernel
theorem d_L_many_9 : decode b_L_many 9 = .ok (.goto 9, 3) := by decide +kernel
theorem d_L_many_12 : decode b_L_many 12 = .ok (.astore_n 3, 1) := by decide +kernel
theorem d_L_many_13 : decode b_L_many 13 = .ok (.iconst 1, 1) := by decide +kernel
theorem d_L_many_14 : decode b_L_many 14 = .ok (.ireturn, 1) := by decide +kernel
theorem d_L_many_15 : decode b_L_many 15 = .ok (.astore_n 3, 1) := by decide +kernel
theorem d_L_many_16 : decode b_L_many 16 = .ok (.iconst 2, 1) := by decide +kernel
theorem d_L_many_17 : decode b_L_many 17 = .ok (.ireturn, 1) := by decide +kernel
theorem d_L_many_18 : decode b_L_many 18 = .ok (.iconst 0, 1) := by decide +kernel
theorem d_L_many_19 : decode b_L_many 19 = .ok (.ireturn, 1) := by decide +kernel
theorem d_L_part_0 : decode b_L_part 0 = .ok (.aload_n 3, 1) := by decide +kernel
theorem d_L_part_1 : decode b_L_part 1 = .ok (.iconst 0, 1) := by decide +kernel
theorem d_L_part_2 : decode b_L_part 2 = .ok (.aload_n 0, 1) := by decide +kernel
theorem d_L_part_3 : decode b_L_part 3 = .ok (.iload_n 1, 1) := by decide +kernel
theorem d_L_part_4 : decode b_L_part 4 = .ok (.iload_n 2, 1) := by decide +kernel
theorem d_L_part_5 : decode b_L_part 5 = .ok (.invokevirtual 35, 3) := by decide +kernel
theorem d_L_part_8 : decode b_L_part 8 = .ok (.i2l, 1) := by decide +kernel
theorem d_L_part_9 : decode b_L_part 9 = .ok (.lastore, 1) := by decide +kernel
theorem d_L_part_10 : decode b_L_part 10 = .ok (.goto 11, 3) := by decide +kernel
theorem d_L_part_13 : decode b_L_part 13 = .ok (.astore 4, 2) := by decide +kernel
theorem d_L_part_15 : decode b_L_part 15 = .ok (.iconst 1, 1) := by decide +kernel
theorem d_L_part_16 : decode b_L_part 16 = .ok (.ireturn, 1) := by decide +kernel
theorem d_L_part_17 : decode b_L_part 17 = .ok (.astore 4, 2) := by decide +kernel
theorem d_L_part_19 : decode b_L_part 19 = .ok (.iconst 2, 1) := by decide +kernel
theorem d_L_part_20 : decode b_L_part 20 = .ok (.ireturn, 1) := by decide +kernel
theorem d_L_part_21 : decode b_L_part 21 = .ok (.iconst 0, 1) := by decide +kernel
theorem d_L_part_22 : decode b_L_part 22 = .ok (.ireturn, 1) := by decide +kernel
theorem d_L_reset_0 : decode b_L_reset 0 = .ok (.aload_n 0, 1) := by decide +kernel
theorem d_L_reset_1 : decode b_L_reset 1 = .ok (.invokevirtual 57, 3) := by decide +kernel
theorem d_L_reset_4 : decode b_L_reset 4 = .ok (.goto 6, 3) := by decide +kernel
theorem d_L_reset_7 : decode b_L_reset 7 = .ok (.astore_n 1, 1) := by decide +kernel
theorem d_L_reset_8 : decode b_L_reset 8 = .ok (.iconst 1, 1) := by decide +kernel
theorem d_L_reset_9 : decode b_L_reset 9 = .ok (.ireturn, 1) := by decide +kernel
theorem d_L_reset_10 : decode b_L_reset 10 = .ok (.iconst 0, 1) := by decide +kernel
theorem d_L_reset_11 : decode b_L_reset 11 = .ok (.ireturn, 1) := by decide +kernel
theorem d_L_says_0 : decode b_L_says 0 = .ok (.aload_n 3, 1) := by decide +kernel
theorem d_L_says_1 : decode b_L_says 1 = .ok (.iconst 0, 1) := by decide +kernel
theorem d_L_says_2 : decode b_L_says 2 = .ok (.aload_n 0, 1) := by decide +kernel
theorem d_L_says_3 : decode b_L_says 3 = .ok (.iload_n 1, 1) := by decide +kernel
theorem d_L_says_4 : decode b_L_says 4 = .ok (.iload_n 2, 1) := by decide +kernel
theorem d_L_says_5 : decode b_L_says 5 = .ok (.invokevirtual 29, 3) := by decide +kernel
theorem d_L_says_8 : decode b_L_says 8 = .ok (.i2l, 1) := by decide +kernel
theorem d_L_says_9 : decode b_L_says 9 = .ok (.lastore, 1) := by decide +kernel
theorem d_L_says_10 : decode b_L_says 10 = .ok (.goto 11, 3) := by decide +kernel
theorem d_L_says_13 : decode b_L_says 13 = .ok (.astore 4, 2) := by decide +kernel
theorem d_L_says_15 : decode b_L_says 15 = .ok (.iconst 1, 1) := by decide +kernel
theorem d_L_says_16 : decode b_L_says 16 = .ok (.ireturn, 1) := by decide +kernel
theorem d_L_says_17 : decode b_L_says 17 = .ok (.astore 4, 2) := by decide +kernel
theorem d_L_says_19 : decode b_L_says 19 = .ok (.iconst 2, 1) := by decide +kernel
theorem d_L_says_20 : decode b_L_says 20 = .ok (.ireturn, 1) := by decide +kernel
theorem d_L_says_21 : decode b_L_says 21 = .ok (.iconst 0, 1) := by decide +kernel
theorem d_L_says_22 : decode b_L_says 22 = .ok (.ireturn, 1) := by decide +kernel
theorem d_L_tell_0 : decode b_L_tell 0 = .ok (.aload_n 0, 1) := by decide +kernel
theorem d_L_tell_1 : decode b_L_tell 1 = .ok (.iload_n 1, 1) := by decide +kernel
theorem d_L_tell_2 : decode b_L_tell 2 = .ok (.iload_n 2, 1) := by decide +kernel
theorem d_L_tell_3 : decode b_L_tell 3 = .ok (.iload_n 3, 1) := by decide +kernel
theorem d_L_tell_4 : decode b_L_tell 4 = .ok (.iload 4, 2) := by decide +kernel
theorem d_L_tell_6 : decode b_L_tell 6 = .ok (.invokevirtual 25, 3) := by decide +kernel
theorem d_L_tell_9 : decode b_L_tell 9 = .ok (.goto 7, 3) := by decide +kernel
theorem d_L_tell_12 : decode b_L_tell 12 = .ok (.astore 5, 2) := by decide +kernel
theorem d_L_tell_14 : decode b_L_tell 14 = .ok (.iconst 1, 1) := by decide +kernel
theorem d_L_tell_15 : decode b_L_tell 15 = .ok (.ireturn, 1) := by decide +kernel
theorem d_L_tell_16 : decode b_L_tell 16 = .ok (.iconst 0, 1) := by decide +kernel
theorem d_L_tell_17 : decode b_L_tell 17 = .ok (.ireturn, 1) := by decide +kernel
theorem d_L_why_0 : decode b_L_why 0 = .ok (.aload_n 1, 1) := by decide +kernel
theorem d_L_why_1 : decode b_L_why 1 = .ok (.iconst 0, 1) := by decide +kernel
theorem d_L_why_2 : decode b_L_why 2 = .ok (.aload_n 0, 1) := by decide +kernel
theorem d_L_why_3 : decode b_L_why 3 = .ok (.invokevirtual 42, 3) := by decide +kernel
theorem d_L_why_6 : decode b_L_why 6 = .ok (.i2l, 1) := by decide +kernel
theorem d_L_why_7 : decode b_L_why 7 = .ok (.lastore, 1) := by decide +kernel
theorem d_L_why_8 : decode b_L_why 8 = .ok (.goto 6, 3) := by decide +kernel
theorem d_L_why_11 : decode b_L_why 11 = .ok (.astore_n 2, 1) := by decide +kernel
theorem d_L_why_12 : decode b_L_why 12 = .ok (.iconst 1, 1) := by decide +kernel
theorem d_L_why_13 : decode b_L_why 13 = .ok (.ireturn, 1) := by decide +kernel
theorem d_L_why_14 : decode b_L_why 14 = .ok (.iconst 0, 1) := by decide +kernel
theorem d_L_why_15 : decode b_L_why 15 = .ok (.ireturn, 1) := by decide +kernel
theorem d_L_whyEvent_0 : decode b_L_whyEvent 0 = .ok (.aload_n 2, 1) := by decide +kernel
theorem d_L_whyEvent_1 : decode b_L_whyEvent 1 = .ok (.iconst 0, 1) := by decide +kernel
theorem d_L_whyEvent_2 : decode b_L_whyEvent 2 = .ok (.aload_n 0, 1) := by decide +kernel
theorem d_L_whyEvent_3 : decode b_L_whyEvent 3 = .ok (.iload_n 1, 1) := by decide +kernel
theorem d_L_whyEvent_4 : decode b_L_whyEvent 4 = .ok (.invokevirtual 46, 3) := by decide +kernel
theorem d_L_whyEvent_7 : decode b_L_whyEvent 7 = .ok (.i2l, 1) := by decide +kernel
theorem d_L_whyEvent_8 : decode b_L_whyEvent 8 = .ok (.lastore, 1) := by decide +kernel
theorem d_L_whyEvent_9 : decode b_L_whyEvent 9 = .ok (.goto 9, 3) := by decide +kernel
theorem d_L_whyEvent_12 : decode b_L_whyEvent 12 = .ok (.astore_n 3, 1) := by decide +kernel
theorem d_L_whyEvent_13 : decode b_L_whyEvent 13 = .ok (.iconst 1, 1) := by decide +kernel
theorem d_L_whyEvent_14 : decode b_L_whyEvent 14 = .ok (.ireturn, 1) := by decide +kernel
theorem d_L_whyEvent_15 : decode b_L_whyEvent 15 = .ok (.astore_n 3, 1) := by decide +kernel
theorem d_L_whyEvent_16 : decode b_L_whyEvent 16 = .ok (.iconst 2, 1) := by decide +kernel
theorem d_L_whyEvent_17 : decode b_L_whyEvent 17 = .ok (.ireturn, 1) := by decide +kernel
theorem d_L_whyEvent_18 : decode b_L_whyEvent 18 = .ok (.iconst 0, 1) := by decide +kernel
theorem d_L_whyEvent_19 : decode b_L_whyEvent 19 = .ok (.ireturn, 1) := by decide +kernel
end
section
theorem d_L_law_0 : decode b_L_law 0 = .ok (.new 8, 3) := by decide +kernel
theorem d_L_law_3 : decode b_L_law 3 = .ok (.dup, 1) := by decide +kernel
theorem d_L_law_4 : decode b_L_law 4 = .ok (.invokespecial 69, 3) := by decide +kernel
theorem d_L_law_7 : decode b_L_law 7 = .ok (.astore_n 1, 1) := by decide +kernel
theorem d_L_law_8 : decode b_L_law 8 = .ok (.new 70, 3) := by decide +kernel
theorem d_L_law_11 : decode b_L_law 11 = .ok (.dup, 1) := by decide +kernel
theorem d_L_law_12 : decode b_L_law 12 = .ok (.invokespecial 72, 3) := by decide +kernel
theorem d_L_law_15 : decode b_L_law 15 = .ok (.astore_n 2, 1) := by decide +kernel
theorem d_L_law_16 : decode b_L_law 16 = .ok (.iconst 1, 1) := by decide +kernel
theorem d_L_law_17 : decode b_L_law 17 = .ok (.newarray .long, 2) := by decide +kernel
theorem d_L_law_19 : decode b_L_law 19 = .ok (.astore_n 3, 1) := by decide +kernel
theorem d_L_law_20 : decode b_L_law 20 = .ok (.iconst 0, 1) := by decide +kernel
theorem d_L_law_21 : decode b_L_law 21 = .ok (.istore 4, 2) := by decide +kernel
theorem d_L_law_23 : decode b_L_law 23 = .ok (.iload 4, 2) := by decide +kernel
theorem d_L_law_25 : decode b_L_law 25 = .ok (.aload_n 0, 1) := by decide +kernel
theorem d_L_law_26 : decode b_L_law 26 = .ok (.arraylength, 1) := by decide +kernel
theorem d_L_law_27 : decode b_L_law 27 = .ok (.iconst 5, 1) := by decide +kernel
theorem d_L_law_28 : decode b_L_law 28 = .ok (.isub, 1) := by decide +kernel
theorem d_L_law_29 : decode b_L_law 29 = .ok (.if_icmp .gt 1084, 3) := by decide +kernel
theorem d_L_law_32 : decode b_L_law 32 = .ok (.aload_n 0, 1) := by decide +kernel
theorem d_L_law_33 : decode b_L_law 33 = .ok (.iload 4, 2) := by decide +kernel
theorem d_L_law_35 : decode b_L_law 35 = .ok (.iaload, 1) := by decide +kernel
theorem d_L_law_36 : decode b_L_law 36 = .ok (.bipush 31, 2) := by decide +kernel
theorem d_L_law_38 : decode b_L_law 38 = .ok (.iand, 1) := by decide +kernel
theorem d_L_law_39 : decode b_L_law 39 = .ok (.tableswitch 1068 0 17 #[85, 153, 244, 316, 404, 415, 428, 496, 564, 632, 688, 732, 788, 856, 912, 936, 980, 1024], 85) := by decide +kernel
theorem d_L_law_124 : decode b_L_law 124 = .ok (.aload_n 1, 1) := by decide +kernel
theorem d_L_law_125 : decode b_L_law 125 = .ok (.aload_n 0, 1) := by decide +kernel
theorem d_L_law_126 : decode b_L_law 126 = .ok (.iload 4, 2) := by decide +kernel
theorem d_L_law_128 : decode b_L_law 128 = .ok (.iconst 1, 1) := by decide +kernel
theorem d_L_law_129 : decode b_L_law 129 = .ok (.iadd, 1) := by decide +kernel
theorem d_L_law_130 : decode b_L_law 130 = .ok (.iaload, 1) := by decide +kernel
theorem d_L_law_131 : decode b_L_law 131 = .ok (.aload_n 0, 1) := by decide +kernel
theorem d_L_law_132 : decode b_L_law 132 = .ok (.iload 4, 2) := by decide +kernel
theorem d_L_law_134 : decode b_L_law 134 = .ok (.iconst 2, 1) := by decide +kernel
theorem d_L_law_135 : decode b_L_law 135 = .ok (.iadd, 1) := by decide +kernel
theorem d_L_law_136 : decode b_L_law 136 = .ok (.iaload, 1) := by decide +kernel
theorem d_L_law_137 : decode b_L_law 137 = .ok (.aload_n 3, 1) := by decide +kernel
theorem d_L_law_138 : decode b_L_law 138 = .ok (.invokestatic 73, 3) := by decide +kernel
theorem d_L_law_141 : decode b_L_law 141 = .ok (.istore 5, 2) := by decide +kernel
theorem d_L_law_143 : decode b_L_law 143 = .ok (.aload_n 2, 1) := by decide +kernel
theorem d_L_law_144 : decode b_L_law 144 = .ok (.aload_n 0, 1) := by decide +kernel
theorem d_L_law_145 : decode b_L_law 145 = .ok (.iload 4, 2) := by decide +kernel
theorem d_L_law_147 : decode b_L_law 147 = .ok (.iconst 1, 1) := by decide +kernel
theorem d_L_law_148 : decode b_L_law 148 = .ok (.iadd, 1) := by decide +kernel
theorem d_L_law_149 : decode b_L_law 149 = .ok (.iaload, 1) := by decide +kernel
theorem d_L_law_150 : decode b_L_law 150 = .ok (.aload_n 0, 1) := by decide +kernel
theorem d_L_law_151 : decode b_L_law 151 = .ok (.iload 4, 2) := by decide +kernel
theorem d_L_law_153 : decode b_L_law 153 = .ok (.iconst 2, 1) := by decide +kernel
theorem d_L_law_154 : decode b_L_law 154 = .ok (.iadd, 1) := by decide +kernel
theorem d_L_law_155 : decode b_L_law 155 = .ok (.iaload, 1) := by decide +kernel
theorem d_L_law_156 : decode b_L_law 156 = .ok (.invokevirtual 78, 3) := by decide +kernel
theorem d_L_law_159 : decode b_L_law 159 = .ok (.istore 6, 2) := by decide +kernel
theorem d_L_law_161 : decode b_L_law 161 = .ok (.aload_n 2, 1) := by decide +kernel
theorem d_L_law_162 : decode b_L_law 162 = .ok (.invokevirtual 79, 3) := by decide +kernel
theorem d_L_law_165 : decode b_L_law 165 = .ok (.iload 5, 2) := by decide +kernel
theorem d_L_law_167 : decode b_L_law 167 = .ok (.if_icmp .eq 5, 3) := by decide +kernel
theorem d_L_law_170 : decode b_L_law 170 = .ok (.iconst 0, 1) := by decide +kernel
theorem d_L_law_171 : decode b_L_law 171 = .ok (.ireturn, 1) := by decide +kernel
theorem d_L_law_172 : decode b_L_law 172 = .ok (.iload 5, 2) := by decide +kernel
theorem d_L_law_174 : decode b_L_law 174 = .ok (.ifCond .ne 15, 3) := by decide +kernel
theorem d_L_law_177 : decode b_L_law 177 = .ok (.aload_n 3, 1) := by decide +kernel
theorem d_L_law_178 : decode b_L_law 178 = .ok (.iconst 0, 1) := by decide +kernel
theorem d_L_law_179 : decode b_L_law 179 = .ok (.laload, 1) := by decide +kernel
theorem d_L_law_180 : decode b_L_law 180 = .ok (.iload 6, 2) := by decide +kernel
theorem d_L_law_182 : decode b_L_law 182 = .ok (.i2l, 1) := by decide +kernel
theorem d_L_law_183 : decode b_L_law 183 = .ok (.lcmp, 1) := by decide +kernel
theorem d_L_law_184 : decode b_L_law 184 = .ok (.ifCond .eq 5, 3) := by decide +kernel
theorem d_L_law_187 : decode b_L_law 187 = .ok (.iconst 0, 1) := by decide +kernel
theorem d_L_law_188 : decode b_L_law 188 = .ok (.ireturn, 1) := by decide +kernel
theorem d_L_law_189 : decode b_L_law 189 = .ok (.goto 918, 3) := by decide +kernel
theorem d_L_law_192 : decode b_L_law 192 = .ok (.aload_n 1, 1) := by decide +kernel
theorem d_L_law_193 : decode b_L_law 193 = .ok (.aload_n 0, 1) := by decide +kernel
theorem d_L_law_194 : decode b_L_law 194 = .ok (.iload 4, 2) := by decide +kernel
theorem d_L_law_196 : decode b_L_law 196 = .ok (.iconst 1, 1) := by decide +kernel
theorem d_L_law_197 : decode b_L_law 197 = .ok (.iadd, 1) := by decide +kernel
theorem d_L_law_198 : decode b_L_law 198 = .ok (.iaload, 1) := by decide +kernel
theorem d_L_law_199 : decode b_L_law 199 = .ok (.aload_n 0, 1) := by decide +kernel
theorem d_L_law_200 : decode b_L_law 200 = .ok (.iload 4, 2) := by decide +kernel
theorem d_L_law_202 : decode b_L_law 202 = .ok (.iconst 2, 1) := by decide +kernel
theorem d_L_law_203 : decode b_L_law 203 = .ok (.iadd, 1) := by decide +kernel
theorem d_L_law_204 : decode b_L_law 204 = .ok (.iaload, 1) := by decide +kernel
theorem d_L_law_205 : decode b_L_law 205 = .ok (.ifCond .eq 7, 3) := by decide +kernel
theorem d_L_law_208 : decode b_L_law 208 = .ok (.iconst 1, 1) := by decide +kernel
theorem d_L_law_209 : decode b_L_law 209 = .ok (.goto 4, 3) := by decide +kernel
theorem d_L_law_212 : decode b_L_law 212 = .ok (.iconst 0, 1) := by decide +kernel
theorem d_L_law_213 : decode b_L_law 213 = .ok (.aload_n 3, 1) := by decide +kernel
theorem d_L_law_214 : decode b_L_law 214 = .ok (.invokestatic 82, 3) := by decide +kernel
theorem d_L_law_217 : decode b_L_law 217 = .ok (.istore 5, 2) := by decide +kernel
theorem d_L_law_219 : decode b_L_law 219 = .ok (.aload_n 2, 1) := by decide +kernel
theorem d_L_law_220 : decode b_L_law 220 = .ok (.aload_n 0, 1) := by decide +kernel
theorem d_L_law_221 : decode b_L_law 221 = .ok (.iload 4, 2) := by decide +kernel
theorem d_L_law_223 : decode b_L_law 223 = .ok (.iconst 1, 1) := by decide +kernel
theorem d_L_law_224 : decode b_L_law 224 = .ok (.iadd, 1) := by decide +kernel
theorem d_L_law_225 : decode b_L_law 225 = .ok (.iaload, 1) := by decide +kernel
theorem d_L_law_226 : decode b_L_law 226 = .ok (.aload_n 0, 1) := by decide +kernel
theorem d_L_law_227 : decode b_L_law 227 = .ok (.iload 4, 2) := by decide +kernel
theorem d_L_law_229 : decode b_L_law 229 = .ok (.iconst 2, 1) := by decide +kernel
theorem d_L_law_230 : decode b_L_law 230 = .ok (.iadd, 1) := by decide +kernel
theorem d_L_law_231 : decode b_L_law 231 = .ok (.iaload, 1) := by decide +kernel
theorem d_L_law_232 : decode b_L_law 232 = .ok (.ifCond .eq 7, 3) := by decide +kernel
theorem d_L_law_235 : decode b_L_law 235 = .ok (.iconst 1, 1) := by decide +kernel
theorem d_L_law_236 : decode b_L_law 236 = .ok (.goto 4, 3) := by decide +kernel
theorem d_L_law_239 : decode b_L_law 239 = .ok (.iconst 0, 1) := by decide +kernel
theorem d_L_law_240 : decode b_L_law 240 = .ok (.invokevirtual 85, 3) := by decide +kernel
theorem d_L_law_243 : decode b_L_law 243 = .ok (.istore 6, 2) := by decide +kernel
theorem d_L_law_245 : decode b_L_law 245 = .ok (.aload_n 2, 1) := by decide +kernel
theorem d_L_law_246 : decode b_L_law 246 = .ok (.invokevirtual 79, 3) := by decide +kernel
theorem d_L_law_249 : decode b_L_law 249 = .ok (.iload 5, 2) := by decide +kernel
theorem d_L_law_251 : decode b_L_law 251 = .ok (.if_icmp .eq 5, 3) := by decide +kernel
theorem d_L_law_254 : decode b_L_law 254 = .ok (.iconst 0, 1) := by decide +kernel
theorem d_L_law_255 : decode b_L_law 255 = .ok (.ireturn, 1) := by decide +kernel
theorem d_L_law_256 : decode b_L_law 256 = .ok (.iload 5, 2) := by decide +kernel
theorem d_L_law_258 : decode b_L_law 258 = .ok (.ifCond .ne 22, 3) := by decide +kernel
theorem d_L_law_261 : decode b_L_law 261 = .ok (.aload_n 3, 1) := by decide +kernel
theorem d_L_law_262 : decode b_L_law 262 = .ok (.iconst 0, 1) := by decide +kernel
theorem d_L_law_263 : decode b_L_law 263 = .ok (.laload, 1) := by decide +kernel
theorem d_L_law_264 : decode b_L_law 264 = .ok (.iload 6, 2) := by decide +kernel
theorem d_L_law_266 : decode b_L_law 266 = .ok (.ifCond .eq 7, 3) := by decide +kernel
theorem d_L_law_269 : decode b_L_law 269 = .ok (.lconst 1, 1) := by decide +kernel
theorem d_L_law_270 : decode b_L_law 270 = .ok (.goto 4, 3) := by decide +kernel
theorem d_L_law_273 : decode b_L_law 273 = .ok (.lconst 0, 1) := by decide +kernel
theorem d_L_law_274 : decode b_L_law 274 = .ok (.lcmp, 1) := by decide +kernel
theorem d_L_law_275 : decode b_L_law 275 = .ok (.ifCond .eq 5, 3) := by decide +kernel
theorem d_L_law_278 : decode b_L_law 278 = .ok (.iconst 0, 1) := by decide +kernel
theorem d_L_law_279 : decode b_L_law 279 = .ok (.ireturn, 1) := by decide +kernel
theorem d_L_law_280 : decode b_L_law 280 = .ok (.goto 827, 3) := by decide +kernel
theorem d_L_law_283 : decode b_L_law 283 = .ok (.aload_n 1, 1) := by decide +kernel
theorem d_L_law_284 : decode b_L_law 284 = .ok (.aload_n 0, 1) := by decide +kernel
theorem d_L_law_285 : decode b_L_law 285 = .ok (.iload 4, 2) := by decide +kernel
theorem d_L_law_287 : decode b_L_law 287 = .ok (.iconst 1, 1) := by decide +kernel
theorem d_L_law_288 : decode b_L_law 288 = .ok (.iadd, 1) := by decide +kernel
theorem d_L_law_289 : decode b_L_law 289 = .ok (.iaload, 1) := by decide +kernel
theorem d_L_law_290 : decode b_L_law 290 = .ok (.aload_n 0, 1) := by decide +kernel
theorem d_L_law_291 : decode b_L_law 291 = .ok (.iload 4, 2) := by decide +kernel
theorem d_L_law_293 : decode b_L_law 293 = .ok (.iconst 2, 1) := by decide +kernel
theorem d_L_law_294 : decode b_L_law 294 = .ok (.iadd, 1) := by decide +kernel
theorem d_L_law_295 : decode b_L_law 295 = .ok (.iaload, 1) := by decide +kernel
theorem d_L_law_296 : decode b_L_law 296 = .ok (.aload_n 0, 1) := by decide +kernel
theorem d_L_law_297 : decode b_L_law 297 = .ok (.iload 4, 2) := by decide +kernel
theorem d_L_law_299 : decode b_L_law 299 = .ok (.iconst 3, 1) := by decide +kernel
theorem d_L_law_300 : decode b_L_law 300 = .ok (.iadd, 1) := by decide +kernel
theorem d_L_law_301 : decode b_L_law 301 = .ok (.iaload, 1) := by decide +kernel
theorem d_L_law_302 : decode b_L_law 302 = .ok (.aload_n 0, 1) := by decide +kernel
theorem d_L_law_303 : decode b_L_law 303 = .ok (.iload 4, 2) := by decide +kernel
theorem d_L_law_305 : decode b_L_law 305 = .ok (.iconst 4, 1) := by decide +kernel
theorem d_L_law_306 : decode b_L_law 306 = .ok (.iadd, 1) := by decide +kernel
theorem d_L_law_307 : decode b_L_law 307 = .ok (.iaload, 1) := by decide +kernel
theorem d_L_law_308 : decode b_L_law 308 = .ok (.invokestatic 86, 3) := by decide +kernel
theorem d_L_law_311 : decode b_L_law 311 = .ok (.istore 5, 2) := by decide +kernel
theorem d_L_law_313 : decode b_L_law 313 = .ok (.aload_n 2, 1) := by decide +kernel
theorem d_L_law_314 : decode b_L_law 314 = .ok (.aload_n 0, 1) := by decide +kernel
theorem d_L_law_315 : decode b_L_law 315 = .ok (.iload 4, 2) := by decide +kernel
theorem d_L_law_317 : decode b_L_law 317 = .ok (.iconst 1, 1) := by decide +kernel
theorem d_L_law_318 : decode b_L_law 318 = .ok (.iadd, 1) := by decide +kernel
theorem d_L_law_319 : decode b_L_law 319 = .ok (.iaload, 1) := by decide +kernel
theorem d_L_law_320 : decode b_L_law 320 = .ok (.aload_n 0, 1) := by decide +kernel
theorem d_L_law_321 : decode b_L_law 321 = .ok (.iload 4, 2) := by decide +kernel
theorem d_L_law_323 : decode b_L_law 323 = .ok (.iconst 2, 1) := by decide +kernel
theorem d_L_law_324 : decode b_L_law 324 = .ok (.iadd, 1) := by decide +kernel
theorem d_L_law_325 : decode b_L_law 325 = .ok (.iaload, 1) := by decide +kernel
theorem d_L_law_326 : decode b_L_law 326 = .ok (.aload_n 0, 1) := by decide +kernel
theorem d_L_law_327 : decode b_L_law 327 = .ok (.iload 4, 2) := by decide +kernel
theorem d_L_law_329 : decode b_L_law 329 = .ok (.iconst 3, 1) := by decide +kernel
theorem d_L_law_330 : decode b_L_law 330 = .ok (.iadd, 1) := by decide +kernel
theorem d_L_law_331 : decode b_L_law 331 = .ok (.iaload, 1) := by decide +kernel
theorem d_L_law_332 : decode b_L_law 332 = .ok (.aload_n 0, 1) := by decide +kernel
theorem d_L_law_333 : decode b_L_law 333 = .ok (.iload 4, 2) := by decide +kernel
theorem d_L_law_335 : decode b_L_law 335 = .ok (.iconst 4, 1) := by decide +kernel
theorem d_L_law_336 : decode b_L_law 336 = .ok (.iadd, 1) := by decide +kernel
theorem d_L_law_337 : decode b_L_law 337 = .ok (.iaload, 1) := by decide +kernel
theorem d_L_law_338 : decode b_L_law 338 = .ok (.invokevirtual 89, 3) := by decide +kernel
theorem d_L_law_341 : decode b_L_law 341 = .ok (.aload_n 2, 1) := by decide +kernel
theorem d_L_law_342 : decode b_L_law 342 = .ok (.invokevirtual 79, 3) := by decide +kernel
theorem d_L_law_345 : decode b_L_law 345 = .ok (.iload 5, 2) := by decide +kernel
theorem d_L_law_347 : decode b_L_law 347 = .ok (.if_icmp .eq 5, 3) := by decide +kernel
theorem d_L_law_350 : decode b_L_law 350 = .ok (.iconst 0, 1) := by decide +kernel
theorem d_L_law_351 : decode b_L_law 351 = .ok (.ireturn, 1) := by decide +kernel
theorem d_L_law_352 : decode b_L_law 352 = .ok (.goto 755, 3) := by decide +kernel
theorem d_L_law_355 : decode b_L_law 355 = .ok (.aload_n 1, 1) := by decide +kernel
theorem d_L_law_356 : decode b_L_law 356 = .ok (.aload_n 0, 1) := by decide +kernel
theorem d_L_law_357 : decode b_L_law 357 = .ok (.iload 4, 2) := by decide +kernel
theorem d_L_law_359 : decode b_L_law 359 = .ok (.iconst 1, 1) := by decide +kernel
theorem d_L_law_360 : decode b_L_law 360 = .ok (.iadd, 1) := by decide +kernel
theorem d_L_law_361 : decode b_L_law 361 = .ok (.iaload, 1) := by decide +kernel
theorem d_L_law_362 : decode b_L_law 362 = .ok (.aload_n 0, 1) := by decide +kernel
theorem d_L_law_363 : decode b_L_law 363 = .ok (.iload 4, 2) := by decide +kernel
theorem d_L_law_365 : decode b_L_law 365 = .ok (.iconst 2, 1) := by decide +kernel
theorem d_L_law_366 : decode b_L_law 366 = .ok (.iadd, 1) := by decide +kernel
theorem d_L_law_367 : decode b_L_law 367 = .ok (.iaload, 1) := by decide +kernel
theorem d_L_law_368 : decode b_L_law 368 = .ok (.aload_n 0, 1) := by decide +kernel
theorem d_L_law_369 : decode b_L_law 369 = .ok (.iload 4, 2) := by decide +kernel
theorem d_L_law_371 : decode b_L_law 371 = .ok (.iconst 3, 1) := by decide +kernel
theorem d_L_law_372 : decode b_L_law 372 = .ok (.iadd, 1) := by decide +kernel
theorem d_L_law_373 : decode b_L_law 373 = .ok (.iaload, 1) := by decide +kernel
theorem d_L_law_374 : decode b_L_law 374 = .ok (.aload_n 0, 1) := by decide +kernel
theorem d_L_law_375 : decode b_L_law 375 = .ok (.iload 4, 2) := by decide +kernel
theorem d_L_law_377 : decode b_L_law 377 = .ok (.iconst 4, 1) := by decide +kernel
theorem d_L_law_378 : decode b_L_law 378 = .ok (.iadd, 1) := by decide +kernel
theorem d_L_law_379 : decode b_L_law 379 = .ok (.iaload, 1) := by decide +kernel
theorem d_L_law_380 : decode b_L_law 380 = .ok (.ifCond .eq 7, 3) := by decide +kernel
theorem d_L_law_383 : decode b_L_law 383 = .ok (.iconst 1, 1) := by decide +kernel
theorem d_L_law_384 : decode b_L_law 384 = .ok (.goto 4, 3) := by decide +kernel
theorem d_L_law_387 : decode b_L_law 387 = .ok (.iconst 0, 1) := by decide +kernel
theorem d_L_law_388 : decode b_L_law 388 = .ok (.invokestatic 90, 3) := by decide +kernel
theorem d_L_law_391 : decode b_L_law 391 = .ok (.istore 5, 2) := by decide +kernel
theorem d_L_law_393 : decode b_L_law 393 = .ok (.aload_n 2, 1) := by decide +kernel
theorem d_L_law_394 : decode b_L_law 394 = .ok (.aload_n 0, 1) := by decide +kernel
theorem d_L_law_395 : decode b_L_law 395 = .ok (.iload 4, 2) := by decide +kernel
theorem d_L_law_397 : decode b_L_law 397 = .ok (.iconst 1, 1) := by decide +kernel
theorem d_L_law_398 : decode b_L_law 398 = .ok (.iadd, 1) := by decide +kernel
theorem d_L_law_399 : decode b_L_law 399 = .ok (.iaload, 1) := by decide +kernel
theorem d_L_law_400 : decode b_L_law 400 = .ok (.aload_n 0, 1) := by decide +kernel
theorem d_L_law_401 : decode b_L_law 401 = .ok (.iload 4, 2) := by decide +kernel
theorem d_L_law_403 : decode b_L_law 403 = .ok (.iconst 2, 1) := by decide +kernel
theorem d_L_law_404 : decode b_L_law 404 = .ok (.iadd, 1) := by decide +kernel
theorem d_L_law_405 : decode b_L_law 405 = .ok (.iaload, 1) := by decide +kernel
theorem d_L_law_406 : decode b_L_law 406 = .ok (.aload_n 0, 1) := by decide +kernel
theorem d_L_law_407 : decode b_L_law 407 = .ok (.iload 4, 2) := by decide +kernel
theorem d_L_law_409 : decode b_L_law 409 = .ok (.iconst 3, 1) := by decide +kernel
theorem d_L_law_410 : decode b_L_law 410 = .ok (.iadd, 1) := by decide +kernel
end
section
theorem d_L_law_411 : decode b_L_law 411 = .ok (.iaload, 1) := by decide +kernel
theorem d_L_law_412 : decode b_L_law 412 = .ok (.aload_n 0, 1) := by decide +kernel
theorem d_L_law_413 : decode b_L_law 413 = .ok (.iload 4, 2) := by decide +kernel
theorem d_L_law_415 : decode b_L_law 415 = .ok (.iconst 4, 1) := by decide +kernel
theorem d_L_law_416 : decode b_L_law 416 = .ok (.iadd, 1) := by decide +kernel
theorem d_L_law_417 : decode b_L_law 417 = .ok (.iaload, 1) := by decide +kernel
theorem d_L_law_418 : decode b_L_law 418 = .ok (.ifCond .eq 7, 3) := by decide +kernel
theorem d_L_law_421 : decode b_L_law 421 = .ok (.iconst 1, 1) := by decide +kernel
theorem d_L_law_422 : decode b_L_law 422 = .ok (.goto 4, 3) := by decide +kernel
theorem d_L_law_425 : decode b_L_law 425 = .ok (.iconst 0, 1) := by decide +kernel
theorem d_L_law_426 : decode b_L_law 426 = .ok (.invokevirtual 93, 3) := by decide +kernel
theorem d_L_law_429 : decode b_L_law 429 = .ok (.aload_n 2, 1) := by decide +kernel
theorem d_L_law_430 : decode b_L_law 430 = .ok (.invokevirtual 79, 3) := by decide +kernel
theorem d_L_law_433 : decode b_L_law 433 = .ok (.iload 5, 2) := by decide +kernel
theorem d_L_law_435 : decode b_L_law 435 = .ok (.if_icmp .eq 5, 3) := by decide +kernel
theorem d_L_law_438 : decode b_L_law 438 = .ok (.iconst 0, 1) := by decide +kernel
theorem d_L_law_439 : decode b_L_law 439 = .ok (.ireturn, 1) := by decide +kernel
theorem d_L_law_440 : decode b_L_law 440 = .ok (.goto 667, 3) := by decide +kernel
theorem d_L_law_443 : decode b_L_law 443 = .ok (.aload_n 1, 1) := by decide +kernel
theorem d_L_law_444 : decode b_L_law 444 = .ok (.invokevirtual 94, 3) := by decide +kernel
theorem d_L_law_447 : decode b_L_law 447 = .ok (.aload_n 2, 1) := by decide +kernel
theorem d_L_law_448 : decode b_L_law 448 = .ok (.invokevirtual 97, 3) := by decide +kernel
theorem d_L_law_451 : decode b_L_law 451 = .ok (.goto 656, 3) := by decide +kernel
theorem d_L_law_454 : decode b_L_law 454 = .ok (.aload_n 1, 1) := by decide +kernel
theorem d_L_law_455 : decode b_L_law 455 = .ok (.invokevirtual 98, 3) := by decide +kernel
theorem d_L_law_458 : decode b_L_law 458 = .ok (.aload_n 2, 1) := by decide +kernel
theorem d_L_law_459 : decode b_L_law 459 = .ok (.invokevirtual 101, 3) := by decide +kernel
theorem d_L_law_462 : decode b_L_law 462 = .ok (.if_icmp .eq 645, 3) := by decide +kernel
theorem d_L_law_465 : decode b_L_law 465 = .ok (.iconst 0, 1) := by decide +kernel
theorem d_L_law_466 : decode b_L_law 466 = .ok (.ireturn, 1) := by decide +kernel
theorem d_L_law_467 : decode b_L_law 467 = .ok (.aload_n 1, 1) := by decide +kernel
theorem d_L_law_468 : decode b_L_law 468 = .ok (.aload_n 0, 1) := by decide +kernel
theorem d_L_law_469 : decode b_L_law 469 = .ok (.iload 4, 2) := by decide +kernel
theorem d_L_law_471 : decode b_L_law 471 = .ok (.iconst 1, 1) := by decide +kernel
theorem d_L_law_472 : decode b_L_law 472 = .ok (.iadd, 1) := by decide +kernel
theorem d_L_law_473 : decode b_L_law 473 = .ok (.iaload, 1) := by decide +kernel
theorem d_L_law_474 : decode b_L_law 474 = .ok (.aload_n 0, 1) := by decide +kernel
theorem d_L_law_475 : decode b_L_law 475 = .ok (.iload 4, 2) := by decide +kernel
theorem d_L_law_477 : decode b_L_law 477 = .ok (.iconst 2, 1) := by decide +kernel
theorem d_L_law_478 : decode b_L_law 478 = .ok (.iadd, 1) := by decide +kernel
theorem d_L_law_479 : decode b_L_law 479 = .ok (.iaload, 1) := by decide +kernel
theorem d_L_law_480 : decode b_L_law 480 = .ok (.aload_n 3, 1) := by decide +kernel
theorem d_L_law_481 : decode b_L_law 481 = .ok (.invokestatic 102, 3) := by decide +kernel
theorem d_L_law_484 : decode b_L_law 484 = .ok (.istore 5, 2) := by decide +kernel
theorem d_L_law_486 : decode b_L_law 486 = .ok (.aload_n 2, 1) := by decide +kernel
theorem d_L_law_487 : decode b_L_law 487 = .ok (.aload_n 0, 1) := by decide +kernel
theorem d_L_law_488 : decode b_L_law 488 = .ok (.iload 4, 2) := by decide +kernel
theorem d_L_law_490 : decode b_L_law 490 = .ok (.iconst 1, 1) := by decide +kernel
theorem d_L_law_491 : decode b_L_law 491 = .ok (.iadd, 1) := by decide +kernel
theorem d_L_law_492 : decode b_L_law 492 = .ok (.iaload, 1) := by decide +kernel
theorem d_L_law_493 : decode b_L_law 493 = .ok (.aload_n 0, 1) := by decide +kernel
theorem d_L_law_494 : decode b_L_law 494 = .ok (.iload 4, 2) := by decide +kernel
theorem d_L_law_496 : decode b_L_law 496 = .ok (.iconst 2, 1) := by decide +kernel
theorem d_L_law_497 : decode b_L_law 497 = .ok (.iadd, 1) := by decide +kernel
theorem d_L_law_498 : decode b_L_law 498 = .ok (.iaload, 1) := by decide +kernel
theorem d_L_law_499 : decode b_L_law 499 = .ok (.invokevirtual 104, 3) := by decide +kernel
theorem d_L_law_502 : decode b_L_law 502 = .ok (.istore 6, 2) := by decide +kernel
theorem d_L_law_504 : decode b_L_law 504 = .ok (.aload_n 2, 1) := by decide +kernel
theorem d_L_law_505 : decode b_L_law 505 = .ok (.invokevirtual 79, 3) := by decide +kernel
theorem d_L_law_508 : decode b_L_law 508 = .ok (.iload 5, 2) := by decide +kernel
theorem d_L_law_510 : decode b_L_law 510 = .ok (.if_icmp .eq 5, 3) := by decide +kernel
theorem d_L_law_513 : decode b_L_law 513 = .ok (.iconst 0, 1) := by decide +kernel
theorem d_L_law_514 : decode b_L_law 514 = .ok (.ireturn, 1) := by decide +kernel
theorem d_L_law_515 : decode b_L_law 515 = .ok (.iload 5, 2) := by decide +kernel
theorem d_L_law_517 : decode b_L_law 517 = .ok (.ifCond .ne 15, 3) := by decide +kernel
theorem d_L_law_520 : decode b_L_law 520 = .ok (.aload_n 3, 1) := by decide +kernel
theorem d_L_law_521 : decode b_L_law 521 = .ok (.iconst 0, 1) := by decide +kernel
theorem d_L_law_522 : decode b_L_law 522 = .ok (.laload, 1) := by decide +kernel
theorem d_L_law_523 : decode b_L_law 523 = .ok (.iload 6, 2) := by decide +kernel
theorem d_L_law_525 : decode b_L_law 525 = .ok (.i2l, 1) := by decide +kernel
theorem d_L_law_526 : decode b_L_law 526 = .ok (.lcmp, 1) := by decide +kernel
theorem d_L_law_527 : decode b_L_law 527 = .ok (.ifCond .eq 5, 3) := by decide +kernel
theorem d_L_law_530 : decode b_L_law 530 = .ok (.iconst 0, 1) := by decide +kernel
theorem d_L_law_531 : decode b_L_law 531 = .ok (.ireturn, 1) := by decide +kernel
theorem d_L_law_532 : decode b_L_law 532 = .ok (.goto 575, 3) := by decide +kernel
theorem d_L_law_535 : decode b_L_law 535 = .ok (.aload_n 1, 1) := by decide +kernel
theorem d_L_law_536 : decode b_L_law 536 = .ok (.aload_n 0, 1) := by decide +kernel
theorem d_L_law_537 : decode b_L_law 537 = .ok (.iload 4, 2) := by decide +kernel
theorem d_L_law_539 : decode b_L_law 539 = .ok (.iconst 1, 1) := by decide +kernel
theorem d_L_law_540 : decode b_L_law 540 = .ok (.iadd, 1) := by decide +kernel
theorem d_L_law_541 : decode b_L_law 541 = .ok (.iaload, 1) := by decide +kernel
theorem d_L_law_542 : decode b_L_law 542 = .ok (.aload_n 0, 1) := by decide +kernel
theorem d_L_law_543 : decode b_L_law 543 = .ok (.iload 4, 2) := by decide +kernel
theorem d_L_law_545 : decode b_L_law 545 = .ok (.iconst 2, 1) := by decide +kernel
theorem d_L_law_546 : decode b_L_law 546 = .ok (.iadd, 1) := by decide +kernel
theorem d_L_law_547 : decode b_L_law 547 = .ok (.iaload, 1) := by decide +kernel
theorem d_L_law_548 : decode b_L_law 548 = .ok (.aload_n 3, 1) := by decide +kernel
theorem d_L_law_549 : decode b_L_law 549 = .ok (.invokestatic 105, 3) := by decide +kernel
theorem d_L_law_552 : decode b_L_law 552 = .ok (.istore 5, 2) := by decide +kernel
theorem d_L_law_554 : decode b_L_law 554 = .ok (.aload_n 2, 1) := by decide +kernel
theorem d_L_law_555 : decode b_L_law 555 = .ok (.aload_n 0, 1) := by decide +kernel
theorem d_L_law_556 : decode b_L_law 556 = .ok (.iload 4, 2) := by decide +kernel
theorem d_L_law_558 : decode b_L_law 558 = .ok (.iconst 1, 1) := by decide +kernel
theorem d_L_law_559 : decode b_L_law 559 = .ok (.iadd, 1) := by decide +kernel
theorem d_L_law_560 : decode b_L_law 560 = .ok (.iaload, 1) := by decide +kernel
theorem d_L_law_561 : decode b_L_law 561 = .ok (.aload_n 0, 1) := by decide +kernel
theorem d_L_law_562 : decode b_L_law 562 = .ok (.iload 4, 2) := by decide +kernel
theorem d_L_law_564 : decode b_L_law 564 = .ok (.iconst 2, 1) := by decide +kernel
theorem d_L_law_565 : decode b_L_law 565 = .ok (.iadd, 1) := by decide +kernel
theorem d_L_law_566 : decode b_L_law 566 = .ok (.iaload, 1) := by decide +kernel
theorem d_L_law_567 : decode b_L_law 567 = .ok (.invokevirtual 107, 3) := by decide +kernel
theorem d_L_law_570 : decode b_L_law 570 = .ok (.istore 6, 2) := by decide +kernel
theorem d_L_law_572 : decode b_L_law 572 = .ok (.aload_n 2, 1) := by decide +kernel
theorem d_L_law_573 : decode b_L_law 573 = .ok (.invokevirtual 79, 3) := by decide +kernel
theorem d_L_law_576 : decode b_L_law 576 = .ok (.iload 5, 2) := by decide +kernel
theorem d_L_law_578 : decode b_L_law 578 = .ok (.if_icmp .eq 5, 3) := by decide +kernel
theorem d_L_law_581 : decode b_L_law 581 = .ok (.iconst 0, 1) := by decide +kernel
theorem d_L_law_582 : decode b_L_law 582 = .ok (.ireturn, 1) := by decide +kernel
theorem d_L_law_583 : decode b_L_law 583 = .ok (.iload 5, 2) := by decide +kernel
theorem d_L_law_585 : decode b_L_law 585 = .ok (.ifCond .ne 15, 3) := by decide +kernel
theorem d_L_law_588 : decode b_L_law 588 = .ok (.aload_n 3, 1) := by decide +kernel
theorem d_L_law_589 : decode b_L_law 589 = .ok (.iconst 0, 1) := by decide +kernel
theorem d_L_law_590 : decode b_L_law 590 = .ok (.laload, 1) := by decide +kernel
theorem d_L_law_591 : decode b_L_law 591 = .ok (.iload 6, 2) := by decide +kernel
theorem d_L_law_593 : decode b_L_law 593 = .ok (.i2l, 1) := by decide +kernel
theorem d_L_law_594 : decode b_L_law 594 = .ok (.lcmp, 1) := by decide +kernel
theorem d_L_law_595 : decode b_L_law 595 = .ok (.ifCond .eq 5, 3) := by decide +kernel
theorem d_L_law_598 : decode b_L_law 598 = .ok (.iconst 0, 1) := by decide +kernel
theorem d_L_law_599 : decode b_L_law 599 = .ok (.ireturn, 1) := by decide +kernel
theorem d_L_law_600 : decode b_L_law 600 = .ok (.goto 507, 3) := by decide +kernel
theorem d_L_law_603 : decode b_L_law 603 = .ok (.aload_n 1, 1) := by decide +kernel
theorem d_L_law_604 : decode b_L_law 604 = .ok (.aload_n 0, 1) := by decide +kernel
theorem d_L_law_605 : decode b_L_law 605 = .ok (.iload 4, 2) := by decide +kernel
theorem d_L_law_607 : decode b_L_law 607 = .ok (.iconst 1, 1) := by decide +kernel
theorem d_L_law_608 : decode b_L_law 608 = .ok (.iadd, 1) := by decide +kernel
theorem d_L_law_609 : decode b_L_law 609 = .ok (.iaload, 1) := by decide +kernel
theorem d_L_law_610 : decode b_L_law 610 = .ok (.aload_n 0, 1) := by decide +kernel
theorem d_L_law_611 : decode b_L_law 611 = .ok (.iload 4, 2) := by decide +kernel
theorem d_L_law_613 : decode b_L_law 613 = .ok (.iconst 2, 1) := by decide +kernel
theorem d_L_law_614 : decode b_L_law 614 = .ok (.iadd, 1) := by decide +kernel
theorem d_L_law_615 : decode b_L_law 615 = .ok (.iaload, 1) := by decide +kernel
theorem d_L_law_616 : decode b_L_law 616 = .ok (.aload_n 3, 1) := by decide +kernel
theorem d_L_law_617 : decode b_L_law 617 = .ok (.invokestatic 108, 3) := by decide +kernel
theorem d_L_law_620 : decode b_L_law 620 = .ok (.istore 5, 2) := by decide +kernel
theorem d_L_law_622 : decode b_L_law 622 = .ok (.aload_n 2, 1) := by decide +kernel
theorem d_L_law_623 : decode b_L_law 623 = .ok (.aload_n 0, 1) := by decide +kernel
theorem d_L_law_624 : decode b_L_law 624 = .ok (.iload 4, 2) := by decide +kernel
theorem d_L_law_626 : decode b_L_law 626 = .ok (.iconst 1, 1) := by decide +kernel
theorem d_L_law_627 : decode b_L_law 627 = .ok (.iadd, 1) := by decide +kernel
theorem d_L_law_628 : decode b_L_law 628 = .ok (.iaload, 1) := by decide +kernel
theorem d_L_law_629 : decode b_L_law 629 = .ok (.aload_n 0, 1) := by decide +kernel
theorem d_L_law_630 : decode b_L_law 630 = .ok (.iload 4, 2) := by decide +kernel
theorem d_L_law_632 : decode b_L_law 632 = .ok (.iconst 2, 1) := by decide +kernel
theorem d_L_law_633 : decode b_L_law 633 = .ok (.iadd, 1) := by decide +kernel
theorem d_L_law_634 : decode b_L_law 634 = .ok (.iaload, 1) := by decide +kernel
theorem d_L_law_635 : decode b_L_law 635 = .ok (.invokevirtual 110, 3) := by decide +kernel
theorem d_L_law_638 : decode b_L_law 638 = .ok (.istore 6, 2) := by decide +kernel
theorem d_L_law_640 : decode b_L_law 640 = .ok (.aload_n 2, 1) := by decide +kernel
theorem d_L_law_641 : decode b_L_law 641 = .ok (.invokevirtual 79, 3) := by decide +kernel
theorem d_L_law_644 : decode b_L_law 644 = .ok (.iload 5, 2) := by decide +kernel
theorem d_L_law_646 : decode b_L_law 646 = .ok (.if_icmp .eq 5, 3) := by decide +kernel
theorem d_L_law_649 : decode b_L_law 649 = .ok (.iconst 0, 1) := by decide +kernel
theorem d_L_law_650 : decode b_L_law 650 = .ok (.ireturn, 1) := by decide +kernel
theorem d_L_law_651 : decode b_L_law 651 = .ok (.iload 5, 2) := by decide +kernel
theorem d_L_law_653 : decode b_L_law 653 = .ok (.ifCond .ne 15, 3) := by decide +kernel
theorem d_L_law_656 : decode b_L_law 656 = .ok (.aload_n 3, 1) := by decide +kernel
theorem d_L_law_657 : decode b_L_law 657 = .ok (.iconst 0, 1) := by decide +kernel
theorem d_L_law_658 : decode b_L_law 658 = .ok (.laload, 1) := by decide +kernel
theorem d_L_law_659 : decode b_L_law 659 = .ok (.iload 6, 2) := by decide +kernel
theorem d_L_law_661 : decode b_L_law 661 = .ok (.i2l, 1) := by decide +kernel
theorem d_L_law_662 : decode b_L_law 662 = .ok (.lcmp, 1) := by decide +kernel
theorem d_L_law_663 : decode b_L_law 663 = .ok (.ifCond .eq 5, 3) := by decide +kernel
theorem d_L_law_666 : decode b_L_law 666 = .ok (.iconst 0, 1) := by decide +kernel
theorem d_L_law_667 : decode b_L_law 667 = .ok (.ireturn, 1) := by decide +kernel
theorem d_L_law_668 : decode b_L_law 668 = .ok (.goto 439, 3) := by decide +kernel
theorem d_L_law_671 : decode b_L_law 671 = .ok (.aload_n 1, 1) := by decide +kernel
theorem d_L_law_672 : decode b_L_law 672 = .ok (.aload_n 0, 1) := by decide +kernel
theorem d_L_law_673 : decode b_L_law 673 = .ok (.iload 4, 2) := by decide +kernel
theorem d_L_law_675 : decode b_L_law 675 = .ok (.iconst 1, 1) := by decide +kernel
theorem d_L_law_676 : decode b_L_law 676 = .ok (.iadd, 1) := by decide +kernel
theorem d_L_law_677 : decode b_L_law 677 = .ok (.iaload, 1) := by decide +kernel
theorem d_L_law_678 : decode b_L_law 678 = .ok (.aload_n 3, 1) := by decide +kernel
theorem d_L_law_679 : decode b_L_law 679 = .ok (.invokestatic 111, 3) := by decide +kernel
theorem d_L_law_682 : decode b_L_law 682 = .ok (.istore 5, 2) := by decide +kernel
theorem d_L_law_684 : decode b_L_law 684 = .ok (.aload_n 2, 1) := by decide +kernel
theorem d_L_law_685 : decode b_L_law 685 = .ok (.aload_n 0, 1) := by decide +kernel
theorem d_L_law_686 : decode b_L_law 686 = .ok (.iload 4, 2) := by decide +kernel
theorem d_L_law_688 : decode b_L_law 688 = .ok (.iconst 1, 1) := by decide +kernel
theorem d_L_law_689 : decode b_L_law 689 = .ok (.iadd, 1) := by decide +kernel
theorem d_L_law_690 : decode b_L_law 690 = .ok (.iaload, 1) := by decide +kernel
theorem d_L_law_691 : decode b_L_law 691 = .ok (.invokevirtual 114, 3) := by decide +kernel
theorem d_L_law_694 : decode b_L_law 694 = .ok (.istore 6, 2) := by decide +kernel
theorem d_L_law_696 : decode b_L_law 696 = .ok (.aload_n 2, 1) := by decide +kernel
theorem d_L_law_697 : decode b_L_law 697 = .ok (.invokevirtual 79, 3) := by decide +kernel
theorem d_L_law_700 : decode b_L_law 700 = .ok (.iload 5, 2) := by decide +kernel
theorem d_L_law_702 : decode b_L_law 702 = .ok (.if_icmp .eq 5, 3) := by decide +kernel
theorem d_L_law_705 : decode b_L_law 705 = .ok (.iconst 0, 1) := by decide +kernel
theorem d_L_law_706 : decode b_L_law 706 = .ok (.ireturn, 1) := by decide +kernel
theorem d_L_law_707 : decode b_L_law 707 = .ok (.iload 5, 2) := by decide +kernel
theorem d_L_law_709 : decode b_L_law 709 = .ok (.ifCond .ne 15, 3) := by decide +kernel
theorem d_L_law_712 : decode b_L_law 712 = .ok (.aload_n 3, 1) := by decide +kernel
theorem d_L_law_713 : decode b_L_law 713 = .ok (.iconst 0, 1) := by decide +kernel
theorem d_L_law_714 : decode b_L_law 714 = .ok (.laload, 1) := by decide +kernel
theorem d_L_law_715 : decode b_L_law 715 = .ok (.iload 6, 2) := by decide +kernel
theorem d_L_law_717 : decode b_L_law 717 = .ok (.i2l, 1) := by decide +kernel
theorem d_L_law_718 : decode b_L_law 718 = .ok (.lcmp, 1) := by decide +kernel
theorem d_L_law_719 : decode b_L_law 719 = .ok (.ifCond .eq 5, 3) := by decide +kernel
theorem d_L_law_722 : decode b_L_law 722 = .ok (.iconst 0, 1) := by decide +kernel
theorem d_L_law_723 : decode b_L_law 723 = .ok (.ireturn, 1) := by decide +kernel
theorem d_L_law_724 : decode b_L_law 724 = .ok (.goto 383, 3) := by decide +kernel
theorem d_L_law_727 : decode b_L_law 727 = .ok (.aload_n 1, 1) := by decide +kernel
theorem d_L_law_728 : decode b_L_law 728 = .ok (.aload_n 3, 1) := by decide +kernel
theorem d_L_law_729 : decode b_L_law 729 = .ok (.invokestatic 115, 3) := by decide +kernel
theorem d_L_law_732 : decode b_L_law 732 = .ok (.istore 5, 2) := by decide +kernel
theorem d_L_law_734 : decode b_L_law 734 = .ok (.aload_n 2, 1) := by decide +kernel
theorem d_L_law_735 : decode b_L_law 735 = .ok (.invokevirtual 118, 3) := by decide +kernel
theorem d_L_law_738 : decode b_L_law 738 = .ok (.istore 6, 2) := by decide +kernel
theorem d_L_law_740 : decode b_L_law 740 = .ok (.aload_n 2, 1) := by decide +kernel
theorem d_L_law_741 : decode b_L_law 741 = .ok (.invokevirtual 79, 3) := by decide +kernel
theorem d_L_law_744 : decode b_L_law 744 = .ok (.iload 5, 2) := by decide +kernel
theorem d_L_law_746 : decode b_L_law 746 = .ok (.if_icmp .eq 5, 3) := by decide +kernel
theorem d_L_law_749 : decode b_L_law 749 = .ok (.iconst 0, 1) := by decide +kernel
theorem d_L_law_750 : decode b_L_law 750 = .ok (.ireturn, 1) := by decide +kernel
theorem d_L_law_751 : decode b_L_law 751 = .ok (.iload 5, 2) := by decide +kernel
theorem d_L_law_753 : decode b_L_law 753 = .ok (.ifCond .ne 15, 3) := by decide +kernel
theorem d_L_law_756 : decode b_L_law 756 = .ok (.aload_n 3, 1) := by decide +kernel
theorem d_L_law_757 : decode b_L_law 757 = .ok (.iconst 0, 1) := by decide +kernel
theorem d_L_law_758 : decode b_L_law 758 = .ok (.laload, 1) := by decide +kernel
theorem d_L_law_759 : decode b_L_law 759 = .ok (.iload 6, 2) := by decide +kernel
theorem d_L_law_761 : decode b_L_law 761 = .ok (.i2l, 1) := by decide +kernel
end
section
theorem d_L_law_762 : decode b_L_law 762 = .ok (.lcmp, 1) := by decide +kernel
theorem d_L_law_763 : decode b_L_law 763 = .ok (.ifCond .eq 5, 3) := by decide +kernel
theorem d_L_law_766 : decode b_L_law 766 = .ok (.iconst 0, 1) := by decide +kernel
theorem d_L_law_767 : decode b_L_law 767 = .ok (.ireturn, 1) := by decide +kernel
theorem d_L_law_768 : decode b_L_law 768 = .ok (.goto 339, 3) := by decide +kernel
theorem d_L_law_771 : decode b_L_law 771 = .ok (.aload_n 1, 1) := by decide +kernel
theorem d_L_law_772 : decode b_L_law 772 = .ok (.aload_n 0, 1) := by decide +kernel
theorem d_L_law_773 : decode b_L_law 773 = .ok (.iload 4, 2) := by decide +kernel
theorem d_L_law_775 : decode b_L_law 775 = .ok (.iconst 1, 1) := by decide +kernel
theorem d_L_law_776 : decode b_L_law 776 = .ok (.iadd, 1) := by decide +kernel
theorem d_L_law_777 : decode b_L_law 777 = .ok (.iaload, 1) := by decide +kernel
theorem d_L_law_778 : decode b_L_law 778 = .ok (.aload_n 3, 1) := by decide +kernel
theorem d_L_law_779 : decode b_L_law 779 = .ok (.invokestatic 119, 3) := by decide +kernel
theorem d_L_law_782 : decode b_L_law 782 = .ok (.istore 5, 2) := by decide +kernel
theorem d_L_law_784 : decode b_L_law 784 = .ok (.aload_n 2, 1) := by decide +kernel
theorem d_L_law_785 : decode b_L_law 785 = .ok (.aload_n 0, 1) := by decide +kernel
theorem d_L_law_786 : decode b_L_law 786 = .ok (.iload 4, 2) := by decide +kernel
theorem d_L_law_788 : decode b_L_law 788 = .ok (.iconst 1, 1) := by decide +kernel
theorem d_L_law_789 : decode b_L_law 789 = .ok (.iadd, 1) := by decide +kernel
theorem d_L_law_790 : decode b_L_law 790 = .ok (.iaload, 1) := by decide +kernel
theorem d_L_law_791 : decode b_L_law 791 = .ok (.invokevirtual 121, 3) := by decide +kernel
theorem d_L_law_794 : decode b_L_law 794 = .ok (.istore 6, 2) := by decide +kernel
theorem d_L_law_796 : decode b_L_law 796 = .ok (.aload_n 2, 1) := by decide +kernel
theorem d_L_law_797 : decode b_L_law 797 = .ok (.invokevirtual 79, 3) := by decide +kernel
theorem d_L_law_800 : decode b_L_law 800 = .ok (.iload 5, 2) := by decide +kernel
theorem d_L_law_802 : decode b_L_law 802 = .ok (.if_icmp .eq 5, 3) := by decide +kernel
theorem d_L_law_805 : decode b_L_law 805 = .ok (.iconst 0, 1) := by decide +kernel
theorem d_L_law_806 : decode b_L_law 806 = .ok (.ireturn, 1) := by decide +kernel
theorem d_L_law_807 : decode b_L_law 807 = .ok (.iload 5, 2) := by decide +kernel
theorem d_L_law_809 : decode b_L_law 809 = .ok (.ifCond .ne 15, 3) := by decide +kernel
theorem d_L_law_812 : decode b_L_law 812 = .ok (.aload_n 3, 1) := by decide +kernel
theorem d_L_law_813 : decode b_L_law 813 = .ok (.iconst 0, 1) := by decide +kernel
theorem d_L_law_814 : decode b_L_law 814 = .ok (.laload, 1) := by decide +kernel
theorem d_L_law_815 : decode b_L_law 815 = .ok (.iload 6, 2) := by decide +kernel
theorem d_L_law_817 : decode b_L_law 817 = .ok (.i2l, 1) := by decide +kernel
theorem d_L_law_818 : decode b_L_law 818 = .ok (.lcmp, 1) := by decide +kernel
theorem d_L_law_819 : decode b_L_law 819 = .ok (.ifCond .eq 5, 3) := by decide +kernel
theorem d_L_law_822 : decode b_L_law 822 = .ok (.iconst 0, 1) := by decide +kernel
theorem d_L_law_823 : decode b_L_law 823 = .ok (.ireturn, 1) := by decide +kernel
theorem d_L_law_824 : decode b_L_law 824 = .ok (.goto 283, 3) := by decide +kernel
theorem d_L_law_827 : decode b_L_law 827 = .ok (.aload_n 1, 1) := by decide +kernel
theorem d_L_law_828 : decode b_L_law 828 = .ok (.aload_n 0, 1) := by decide +kernel
theorem d_L_law_829 : decode b_L_law 829 = .ok (.iload 4, 2) := by decide +kernel
theorem d_L_law_831 : decode b_L_law 831 = .ok (.iconst 1, 1) := by decide +kernel
theorem d_L_law_832 : decode b_L_law 832 = .ok (.iadd, 1) := by decide +kernel
theorem d_L_law_833 : decode b_L_law 833 = .ok (.iaload, 1) := by decide +kernel
theorem d_L_law_834 : decode b_L_law 834 = .ok (.aload_n 0, 1) := by decide +kernel
theorem d_L_law_835 : decode b_L_law 835 = .ok (.iload 4, 2) := by decide +kernel
theorem d_L_law_837 : decode b_L_law 837 = .ok (.iconst 2, 1) := by decide +kernel
theorem d_L_law_838 : decode b_L_law 838 = .ok (.iadd, 1) := by decide +kernel
theorem d_L_law_839 : decode b_L_law 839 = .ok (.iaload, 1) := by decide +kernel
theorem d_L_law_840 : decode b_L_law 840 = .ok (.aload_n 3, 1) := by decide +kernel
theorem d_L_law_841 : decode b_L_law 841 = .ok (.invokestatic 122, 3) := by decide +kernel
theorem d_L_law_844 : decode b_L_law 844 = .ok (.istore 5, 2) := by decide +kernel
theorem d_L_law_846 : decode b_L_law 846 = .ok (.aload_n 2, 1) := by decide +kernel
theorem d_L_law_847 : decode b_L_law 847 = .ok (.aload_n 0, 1) := by decide +kernel
theorem d_L_law_848 : decode b_L_law 848 = .ok (.iload 4, 2) := by decide +kernel
theorem d_L_law_850 : decode b_L_law 850 = .ok (.iconst 1, 1) := by decide +kernel
theorem d_L_law_851 : decode b_L_law 851 = .ok (.iadd, 1) := by decide +kernel
theorem d_L_law_852 : decode b_L_law 852 = .ok (.iaload, 1) := by decide +kernel
theorem d_L_law_853 : decode b_L_law 853 = .ok (.aload_n 0, 1) := by decide +kernel
theorem d_L_law_854 : decode b_L_law 854 = .ok (.iload 4, 2) := by decide +kernel
theorem d_L_law_856 : decode b_L_law 856 = .ok (.iconst 2, 1) := by decide +kernel
theorem d_L_law_857 : decode b_L_law 857 = .ok (.iadd, 1) := by decide +kernel
theorem d_L_law_858 : decode b_L_law 858 = .ok (.iaload, 1) := by decide +kernel
theorem d_L_law_859 : decode b_L_law 859 = .ok (.invokevirtual 124, 3) := by decide +kernel
theorem d_L_law_862 : decode b_L_law 862 = .ok (.istore 6, 2) := by decide +kernel
theorem d_L_law_864 : decode b_L_law 864 = .ok (.aload_n 2, 1) := by decide +kernel
theorem d_L_law_865 : decode b_L_law 865 = .ok (.invokevirtual 79, 3) := by decide +kernel
theorem d_L_law_868 : decode b_L_law 868 = .ok (.iload 5, 2) := by decide +kernel
theorem d_L_law_870 : decode b_L_law 870 = .ok (.if_icmp .eq 5, 3) := by decide +kernel
theorem d_L_law_873 : decode b_L_law 873 = .ok (.iconst 0, 1) := by decide +kernel
theorem d_L_law_874 : decode b_L_law 874 = .ok (.ireturn, 1) := by decide +kernel
theorem d_L_law_875 : decode b_L_law 875 = .ok (.iload 5, 2) := by decide +kernel
theorem d_L_law_877 : decode b_L_law 877 = .ok (.ifCond .ne 15, 3) := by decide +kernel
theorem d_L_law_880 : decode b_L_law 880 = .ok (.aload_n 3, 1) := by decide +kernel
theorem d_L_law_881 : decode b_L_law 881 = .ok (.iconst 0, 1) := by decide +kernel
theorem d_L_law_882 : decode b_L_law 882 = .ok (.laload, 1) := by decide +kernel
theorem d_L_law_883 : decode b_L_law 883 = .ok (.iload 6, 2) := by decide +kernel
theorem d_L_law_885 : decode b_L_law 885 = .ok (.i2l, 1) := by decide +kernel
theorem d_L_law_886 : decode b_L_law 886 = .ok (.lcmp, 1) := by decide +kernel
theorem d_L_law_887 : decode b_L_law 887 = .ok (.ifCond .eq 5, 3) := by decide +kernel
theorem d_L_law_890 : decode b_L_law 890 = .ok (.iconst 0, 1) := by decide +kernel
theorem d_L_law_891 : decode b_L_law 891 = .ok (.ireturn, 1) := by decide +kernel
theorem d_L_law_892 : decode b_L_law 892 = .ok (.goto 215, 3) := by decide +kernel
theorem d_L_law_895 : decode b_L_law 895 = .ok (.aload_n 1, 1) := by decide +kernel
theorem d_L_law_896 : decode b_L_law 896 = .ok (.aload_n 0, 1) := by decide +kernel
theorem d_L_law_897 : decode b_L_law 897 = .ok (.iload 4, 2) := by decide +kernel
theorem d_L_law_899 : decode b_L_law 899 = .ok (.iconst 1, 1) := by decide +kernel
theorem d_L_law_900 : decode b_L_law 900 = .ok (.iadd, 1) := by decide +kernel
theorem d_L_law_901 : decode b_L_law 901 = .ok (.iaload, 1) := by decide +kernel
theorem d_L_law_902 : decode b_L_law 902 = .ok (.aload_n 3, 1) := by decide +kernel
theorem d_L_law_903 : decode b_L_law 903 = .ok (.invokestatic 125, 3) := by decide +kernel
theorem d_L_law_906 : decode b_L_law 906 = .ok (.istore 5, 2) := by decide +kernel
theorem d_L_law_908 : decode b_L_law 908 = .ok (.aload_n 2, 1) := by decide +kernel
theorem d_L_law_909 : decode b_L_law 909 = .ok (.aload_n 0, 1) := by decide +kernel
theorem d_L_law_910 : decode b_L_law 910 = .ok (.iload 4, 2) := by decide +kernel
theorem d_L_law_912 : decode b_L_law 912 = .ok (.iconst 1, 1) := by decide +kernel
theorem d_L_law_913 : decode b_L_law 913 = .ok (.iadd, 1) := by decide +kernel
theorem d_L_law_914 : decode b_L_law 914 = .ok (.iaload, 1) := by decide +kernel
theorem d_L_law_915 : decode b_L_law 915 = .ok (.invokevirtual 127, 3) := by decide +kernel
theorem d_L_law_918 : decode b_L_law 918 = .ok (.istore 6, 2) := by decide +kernel
theorem d_L_law_920 : decode b_L_law 920 = .ok (.aload_n 2, 1) := by decide +kernel
theorem d_L_law_921 : decode b_L_law 921 = .ok (.invokevirtual 79, 3) := by decide +kernel
theorem d_L_law_924 : decode b_L_law 924 = .ok (.iload 5, 2) := by decide +kernel
theorem d_L_law_926 : decode b_L_law 926 = .ok (.if_icmp .eq 5, 3) := by decide +kernel
theorem d_L_law_929 : decode b_L_law 929 = .ok (.iconst 0, 1) := by decide +kernel
theorem d_L_law_930 : decode b_L_law 930 = .ok (.ireturn, 1) := by decide +kernel
theorem d_L_law_931 : decode b_L_law 931 = .ok (.iload 5, 2) := by decide +kernel
theorem d_L_law_933 : decode b_L_law 933 = .ok (.ifCond .ne 15, 3) := by decide +kernel
theorem d_L_law_936 : decode b_L_law 936 = .ok (.aload_n 3, 1) := by decide +kernel
theorem d_L_law_937 : decode b_L_law 937 = .ok (.iconst 0, 1) := by decide +kernel
theorem d_L_law_938 : decode b_L_law 938 = .ok (.laload, 1) := by decide +kernel
theorem d_L_law_939 : decode b_L_law 939 = .ok (.iload 6, 2) := by decide +kernel
theorem d_L_law_941 : decode b_L_law 941 = .ok (.i2l, 1) := by decide +kernel
theorem d_L_law_942 : decode b_L_law 942 = .ok (.lcmp, 1) := by decide +kernel
theorem d_L_law_943 : decode b_L_law 943 = .ok (.ifCond .eq 5, 3) := by decide +kernel
theorem d_L_law_946 : decode b_L_law 946 = .ok (.iconst 0, 1) := by decide +kernel
theorem d_L_law_947 : decode b_L_law 947 = .ok (.ireturn, 1) := by decide +kernel
theorem d_L_law_948 : decode b_L_law 948 = .ok (.goto 159, 3) := by decide +kernel
theorem d_L_law_951 : decode b_L_law 951 = .ok (.aload_n 1, 1) := by decide +kernel
theorem d_L_law_952 : decode b_L_law 952 = .ok (.invokestatic 128, 3) := by decide +kernel
theorem d_L_law_955 : decode b_L_law 955 = .ok (.istore 5, 2) := by decide +kernel
theorem d_L_law_957 : decode b_L_law 957 = .ok (.aload_n 2, 1) := by decide +kernel
theorem d_L_law_958 : decode b_L_law 958 = .ok (.invokevirtual 131, 3) := by decide +kernel
theorem d_L_law_961 : decode b_L_law 961 = .ok (.aload_n 2, 1) := by decide +kernel
theorem d_L_law_962 : decode b_L_law 962 = .ok (.invokevirtual 79, 3) := by decide +kernel
theorem d_L_law_965 : decode b_L_law 965 = .ok (.iload 5, 2) := by decide +kernel
theorem d_L_law_967 : decode b_L_law 967 = .ok (.if_icmp .eq 5, 3) := by decide +kernel
theorem d_L_law_970 : decode b_L_law 970 = .ok (.iconst 0, 1) := by decide +kernel
theorem d_L_law_971 : decode b_L_law 971 = .ok (.ireturn, 1) := by decide +kernel
theorem d_L_law_972 : decode b_L_law 972 = .ok (.goto 135, 3) := by decide +kernel
theorem d_L_law_975 : decode b_L_law 975 = .ok (.aload_n 1, 1) := by decide +kernel
theorem d_L_law_976 : decode b_L_law 976 = .ok (.aload_n 3, 1) := by decide +kernel
theorem d_L_law_977 : decode b_L_law 977 = .ok (.invokestatic 132, 3) := by decide +kernel
theorem d_L_law_980 : decode b_L_law 980 = .ok (.istore 5, 2) := by decide +kernel
theorem d_L_law_982 : decode b_L_law 982 = .ok (.aload_n 2, 1) := by decide +kernel
theorem d_L_law_983 : decode b_L_law 983 = .ok (.invokevirtual 134, 3) := by decide +kernel
theorem d_L_law_986 : decode b_L_law 986 = .ok (.istore 6, 2) := by decide +kernel
theorem d_L_law_988 : decode b_L_law 988 = .ok (.aload_n 2, 1) := by decide +kernel
theorem d_L_law_989 : decode b_L_law 989 = .ok (.invokevirtual 79, 3) := by decide +kernel
theorem d_L_law_992 : decode b_L_law 992 = .ok (.iload 5, 2) := by decide +kernel
theorem d_L_law_994 : decode b_L_law 994 = .ok (.if_icmp .eq 5, 3) := by decide +kernel
theorem d_L_law_997 : decode b_L_law 997 = .ok (.iconst 0, 1) := by decide +kernel
theorem d_L_law_998 : decode b_L_law 998 = .ok (.ireturn, 1) := by decide +kernel
theorem d_L_law_999 : decode b_L_law 999 = .ok (.iload 5, 2) := by decide +kernel
theorem d_L_law_1001 : decode b_L_law 1001 = .ok (.ifCond .ne 15, 3) := by decide +kernel
theorem d_L_law_1004 : decode b_L_law 1004 = .ok (.aload_n 3, 1) := by decide +kernel
theorem d_L_law_1005 : decode b_L_law 1005 = .ok (.iconst 0, 1) := by decide +kernel
theorem d_L_law_1006 : decode b_L_law 1006 = .ok (.laload, 1) := by decide +kernel
theorem d_L_law_1007 : decode b_L_law 1007 = .ok (.iload 6, 2) := by decide +kernel
theorem d_L_law_1009 : decode b_L_law 1009 = .ok (.i2l, 1) := by decide +kernel
theorem d_L_law_1010 : decode b_L_law 1010 = .ok (.lcmp, 1) := by decide +kernel
theorem d_L_law_1011 : decode b_L_law 1011 = .ok (.ifCond .eq 5, 3) := by decide +kernel
theorem d_L_law_1014 : decode b_L_law 1014 = .ok (.iconst 0, 1) := by decide +kernel
theorem d_L_law_1015 : decode b_L_law 1015 = .ok (.ireturn, 1) := by decide +kernel
theorem d_L_law_1016 : decode b_L_law 1016 = .ok (.goto 91, 3) := by decide +kernel
theorem d_L_law_1019 : decode b_L_law 1019 = .ok (.aload_n 1, 1) := by decide +kernel
theorem d_L_law_1020 : decode b_L_law 1020 = .ok (.aload_n 3, 1) := by decide +kernel
theorem d_L_law_1021 : decode b_L_law 1021 = .ok (.invokestatic 135, 3) := by decide +kernel
theorem d_L_law_1024 : decode b_L_law 1024 = .ok (.istore 5, 2) := by decide +kernel
theorem d_L_law_1026 : decode b_L_law 1026 = .ok (.aload_n 2, 1) := by decide +kernel
theorem d_L_law_1027 : decode b_L_law 1027 = .ok (.invokevirtual 137, 3) := by decide +kernel
theorem d_L_law_1030 : decode b_L_law 1030 = .ok (.istore 6, 2) := by decide +kernel
theorem d_L_law_1032 : decode b_L_law 1032 = .ok (.aload_n 2, 1) := by decide +kernel
theorem d_L_law_1033 : decode b_L_law 1033 = .ok (.invokevirtual 79, 3) := by decide +kernel
theorem d_L_law_1036 : decode b_L_law 1036 = .ok (.iload 5, 2) := by decide +kernel
theorem d_L_law_1038 : decode b_L_law 1038 = .ok (.if_icmp .eq 5, 3) := by decide +kernel
theorem d_L_law_1041 : decode b_L_law 1041 = .ok (.iconst 0, 1) := by decide +kernel
theorem d_L_law_1042 : decode b_L_law 1042 = .ok (.ireturn, 1) := by decide +kernel
theorem d_L_law_1043 : decode b_L_law 1043 = .ok (.iload 5, 2) := by decide +kernel
theorem d_L_law_1045 : decode b_L_law 1045 = .ok (.ifCond .ne 15, 3) := by decide +kernel
theorem d_L_law_1048 : decode b_L_law 1048 = .ok (.aload_n 3, 1) := by decide +kernel
theorem d_L_law_1049 : decode b_L_law 1049 = .ok (.iconst 0, 1) := by decide +kernel
theorem d_L_law_1050 : decode b_L_law 1050 = .ok (.laload, 1) := by decide +kernel
theorem d_L_law_1051 : decode b_L_law 1051 = .ok (.iload 6, 2) := by decide +kernel
theorem d_L_law_1053 : decode b_L_law 1053 = .ok (.i2l, 1) := by decide +kernel
theorem d_L_law_1054 : decode b_L_law 1054 = .ok (.lcmp, 1) := by decide +kernel
theorem d_L_law_1055 : decode b_L_law 1055 = .ok (.ifCond .eq 5, 3) := by decide +kernel
theorem d_L_law_1058 : decode b_L_law 1058 = .ok (.iconst 0, 1) := by decide +kernel
theorem d_L_law_1059 : decode b_L_law 1059 = .ok (.ireturn, 1) := by decide +kernel
theorem d_L_law_1060 : decode b_L_law 1060 = .ok (.goto 47, 3) := by decide +kernel
theorem d_L_law_1063 : decode b_L_law 1063 = .ok (.aload_n 1, 1) := by decide +kernel
theorem d_L_law_1064 : decode b_L_law 1064 = .ok (.aload_n 3, 1) := by decide +kernel
theorem d_L_law_1065 : decode b_L_law 1065 = .ok (.invokestatic 138, 3) := by decide +kernel
theorem d_L_law_1068 : decode b_L_law 1068 = .ok (.istore 5, 2) := by decide +kernel
theorem d_L_law_1070 : decode b_L_law 1070 = .ok (.aload_n 2, 1) := by decide +kernel
theorem d_L_law_1071 : decode b_L_law 1071 = .ok (.invokevirtual 140, 3) := by decide +kernel
theorem d_L_law_1074 : decode b_L_law 1074 = .ok (.istore 6, 2) := by decide +kernel
theorem d_L_law_1076 : decode b_L_law 1076 = .ok (.aload_n 2, 1) := by decide +kernel
theorem d_L_law_1077 : decode b_L_law 1077 = .ok (.invokevirtual 79, 3) := by decide +kernel
theorem d_L_law_1080 : decode b_L_law 1080 = .ok (.iload 5, 2) := by decide +kernel
theorem d_L_law_1082 : decode b_L_law 1082 = .ok (.if_icmp .eq 5, 3) := by decide +kernel
theorem d_L_law_1085 : decode b_L_law 1085 = .ok (.iconst 0, 1) := by decide +kernel
theorem d_L_law_1086 : decode b_L_law 1086 = .ok (.ireturn, 1) := by decide +kernel
theorem d_L_law_1087 : decode b_L_law 1087 = .ok (.iload 5, 2) := by decide +kernel
theorem d_L_law_1089 : decode b_L_law 1089 = .ok (.ifCond .ne 15, 3) := by decide +kernel
theorem d_L_law_1092 : decode b_L_law 1092 = .ok (.aload_n 3, 1) := by decide +kernel
theorem d_L_law_1093 : decode b_L_law 1093 = .ok (.iconst 0, 1) := by decide +kernel
theorem d_L_law_1094 : decode b_L_law 1094 = .ok (.laload, 1) := by decide +kernel
theorem d_L_law_1095 : decode b_L_law 1095 = .ok (.iload 6, 2) := by decide +kernel
theorem d_L_law_1097 : decode b_L_law 1097 = .ok (.i2l, 1) := by decide +kernel
theorem d_L_law_1098 : decode b_L_law 1098 = .ok (.lcmp, 1) := by decide +kernel
theorem d_L_law_1099 : decode b_L_law 1099 = .ok (.ifCond .eq 5, 3) := by decide +kernel
theorem d_L_law_1102 : decode b_L_law 1102 = .ok (.iconst 0, 1) := by decide +kernel
theorem d_L_law_1103 : decode b_L_law 1103 = .ok (.ireturn, 1) := by decide +kernel
theorem d_L_law_1104 : decode b_L_law 1104 = .ok (.goto 3, 3) := by decide +kernel
theorem d_L_law_1107 : decode b_L_law 1107 = .ok (.iinc 4 5, 3) := by decide +kernel
theorem d_L_law_1110 : decode b_L_law 1110 = .ok (.goto (-1087), 3) := by decide +kernel
theorem d_L_law_1113 : decode b_L_law 1113 = .ok (.iconst 1, 1) := by decide +kernel
theorem d_L_law_1114 : decode b_L_law 1114 = .ok (.ireturn, 1) := by decide +kernel
end
section
def zAo : String := "SafeControl$Automaton"
def zN : Nat := 77
def zKt : List ((Nat × Nat) ⊕ Nat) := [.inr 6, .inr 0, .inl (3, 4), .inr 1, .inl (0, 6), .inl (0, 72), .inr 1, .inl (0, 6), .inl (0, 72), .inr 1, .inl (0, 6), .inl (0, 72), .inr 1, .inl (0, 6), .inl (0, 72), .inr 2, .inl (0, 4096), .inl (0, 201), .inl (1, 201), .inl (1, 201), .inl (0, 201), .inl (0, 201), .inl (0, 2412), .inl (0, 201), .inl (0, 2412), .inl (0, 201), .inr 5, .inl (0, 201), .inl (0, 201), .inl (0, 201), .inr 3, .inl (0, 201), .inl (0, 201), .inr 4, .inl (0, 201), .inl (0, 201), .inl (0, 201), .inl (0, 201), .inl (0, 2412), .inr 4, .inl (0, 201), .inl (0, 201), .inl (0, 201), .inl (0, 201), .inl (0, 2412), .inr 4, .inl (0, 201), .inl (0, 201), .inl (0, 201), .inl (0, 201), .inl (0, 2412), .inr 7, .inl (0, 4), .inl (1, 4), .inl (0, 4), .inl (1, 24), .inl (1, 24), .inl (0, 288), .inl (1, 12), .inl (1, 12), .inl (0, 3), .inl (0, 600), .inl (0, 7200), .inl (1, 7200), .inl (1, 600), .inl (1, 600), .inl (1, 600), .inl (0, 200), .inl (0, 200), .inl (0, 200), .inl (0, 200), .inl (0, 200), .inl (0, 200), .inl (0, 200), .inl (0, 200), .inl (0, 200), .inl (2, 1)]
def zK (p : Nat) : (Nat × Nat) ⊕ Nat := zKt.getD p (.inr 99)
def zFt : List Nat := [4, 8, 11, 3, 9, 5, 8, 32]
def zF (c : Nat) : Nat := zFt.getD c 0
def zIt : List (List Bool) := [[true, false, false, false], [false, false, false, false, false, false, true, true], [false, true, true, true, true, true, true, true, true, true, true], [true, true, true], [false, false, false, false, true, true, true, true, true], [true, true, true, true, true], [true, true, true, true, true, true, false, false], [false, false, true, true, true, true, true, true, true, true, true, true, true, true, true, true, true, false, false, true, true, true, true, true, true, false, false, true, false, false, true, true]]
def zI (c k : Nat) : Bool := (zIt.getD c []).getD k false
def zRt : List (List Nat) := [[1, 26, 30, 33, 39, 45, 0, 0], [2, 0, 0, 0], [3, 6, 9, 12], [0, 0, 0, 0, 0, 0, 4, 5], [], [], [0, 0, 0, 0, 0, 0, 7, 8], [], [], [0, 0, 0, 0, 0, 0, 10, 11], [], [], [0, 0, 0, 0, 0, 0, 13, 14], [], [], [0, 16, 17, 18, 19, 20, 21, 22, 23, 24, 25], [], [], [], [], [], [], [], [], [], [], [1, 15, 27, 28, 29], [], [], [], [15, 31, 32], [], [], [0, 0, 0, 0, 34, 35, 36, 37, 38], [], [], [], [], [], [0, 0, 0, 0, 40, 41, 42, 43, 44], [], [], [], [], [], [0, 0, 0, 0, 46, 47, 48, 49, 50], [], [], [], [], [], [0, 0, 52, 53, 54, 55, 56, 57, 58, 59, 60, 61, 62, 63, 64, 65, 66, 0, 0, 67, 68, 69, 70, 71, 72, 0, 0, 73, 0, 0, 74, 75], [], [], [], [], [], [], [], [], [], [], [], [], [], [], [], [], [], [], [], [], [], [], [], [], []]
def zR (p k : Nat) : Nat := (zRt.getD p []).getD k 0
/-! the tables' words that a walk needs, and how they go over to warmer tables -/
def zok : Cond → Bool
  | .fieldLinkNest .. => true
  | .methodLinkNest .. => true
  | .castable .. => true
  | .declares _ => true
  | w => w.onTables && w.keeps
theorem zok_on {w : Cond} (h : zok w = true) : w.onTables = true := by
  cases w <;> first | rfl | (simp only [zok, Bool.and_eq_true] at h; exact h.1)
theorem zok_warm {w : Cond} (h : zok w = true) {s U : State} (hW : s.WarmedH U.vm) (hs : va_Nw w s) : va_Nw w U := by
  cases w <;> first | exact va_Nw.warmF hW hs | exact va_Nw.warmM hW hs | exact va_Nw.warmC hW hs | exact va_Nw.warmD hW hs | exact word_at hW (Or.inl h) hs
def zWS : List Cond := lw_tbl.filter zok
def zWH : List Cond := [.isRef (.static "java/lang/Throwable" "UNASSIGNED_STACK" "[Ljava/lang/StackTraceElement;"), .isRef (.static "java/lang/Throwable" "SUPPRESSED_SENTINEL" "Ljava/util/List;"), .laysStatic "java/lang/Throwable" "UNASSIGNED_STACK" "[Ljava/lang/StackTraceElement;", .laysStatic "java/lang/Throwable" "SUPPRESSED_SENTINEL" "Ljava/util/List;"]
def zEx (k : Nat) : String := match k with
  | 0 => "java/lang/IllegalArgumentException"
  | 1 => "java/lang/IllegalStateException"
  | _ => "java/lang/IndexOutOfBoundsException"
def zTb (U : State) : Prop := (∀ w ∈ zWS, va_Nw w U) ∧ (∀ w ∈ zWH, w.before #[] U = true) ∧ ∀ i j, i < 3 → j < 3 → i ≠ j → va_Nc (zEx i) (zEx j) U
theorem zTb.at {s : State} (h : zTb s) {A : Array Value} {w : Cond} (hw : w ∈ zWS) (ho : w.onTables = true) : w.before A s = true := va_Nw.use ho (h.1 w hw)
theorem zst_eval {s U : State} {c n d : String} {v : Value} (hvm : s.vm = U.vm) (hh : ∀ (q : Nat) (cell : Cell), s.heap[q]? = some cell → cell.vm.isStatics = true → U.heap[q]? = some cell)
    (h : (Term.static c n d).eval #[] s none [] s = some v) : (Term.static c n d).eval #[] U none [] U = some v := by
  have e1 : s.fieldNamed? c n d true = U.fieldNamed? c n d true := by
    simp only [State.fieldNamed?, State.fieldFound?, hvm]
  simp only [Term.eval] at h ⊢
  rw [e1] at h
  cases hf : U.fieldNamed? c n d true with
  | none => rw [hf] at h; simp at h
  | some x =>
    obtain ⟨c1, k, slot⟩ := x
    rw [hf] at h
    simp only [Option.bind_eq_bind, Option.bind_some] at h ⊢
    cases hk : k.statics with
    | none => rw [hk] at h; simp at h
    | some a =>
      rw [hk] at h
      simp only [Option.bind_some] at h ⊢
      cases hc : s.heap[a]? with
      | none => rw [hc] at h; simp at h
      | some cell =>
        rw [hc] at h
        simp only [Option.bind_some] at h
        by_cases hs : cell.vm.isStatics = true
        · rw [hh a cell hc hs]
          simpa [hs] using h
        · simp [hs] at h
theorem zst_ref {s U : State} {c n d : String} (hW : s.WarmedH U.vm) (hh : ∀ (q : Nat) (cell : Cell), s.heap[q]? = some cell → cell.vm.isStatics = true → U.heap[q]? = some cell)
    (h : (Cond.isRef (.static c n d)).before #[] s = true) : (Cond.isRef (.static c n d)).before #[] U = true := by
  have h1 : (Cond.isRef (.static c n d)).holds #[] (s.setVm U.vm) none (s.setVm U.vm) [] = true := Cond.holds_shifted (args := #[]) (o := none) (State.Shifted.of_warmed hW) (Cond.isRef (.static c n d)) [] rfl h
  simp only [Cond.before, Cond.holds, Cond.value] at h1 ⊢
  cases he : (Term.static c n d).eval #[] (s.setVm U.vm) none [] (s.setVm U.vm) with
  | none => rw [he] at h1; simp at h1
  | some v =>
    rw [zst_eval (s := s.setVm U.vm) (U := U) rfl hh he]
    rw [he] at h1
    exact h1
theorem zst_lays0 {s U : State} {c n d : String} (hvm : s.vm = U.vm) (hh : ∀ (q : Nat) (cell : Cell), s.heap[q]? = some cell → cell.vm.isStatics = true → U.heap[q]? = some cell)
    (h : (Cond.laysStatic c n d).before #[] s = true) : (Cond.laysStatic c n d).before #[] U = true := by
  have e1 : s.fieldFound? c n d = U.fieldFound? c n d := by simp only [State.fieldFound?, hvm]
  simp only [Cond.before, Cond.holds, Cond.value, hvm, e1] at h ⊢
  cases h1 : U.vm.findClass c with
  | none => simp [h1] at h
  | some c1 =>
    cases h2 : U.fieldFound? c n d with
    | none => simp [h1, h2] at h
    | some x =>
      obtain ⟨c2, k, i2, f⟩ := x
      simp only [h1, h2] at h ⊢
      cases h3 : k.statics with
      | none => simp [h3] at h
      | some a =>
        simp only [h3, Option.bind_some] at h ⊢
        cases h4 : s.heap[a]? with
        | none => simp [h4] at h
        | some cell =>
          simp only [h4, Option.map_some, beq_iff_eq, Option.some.injEq, Bool.and_eq_true, decide_eq_true_eq] at h
          have hs : cell.vm.isStatics = true := h.1.1.1.2
          rw [hh a cell h4 hs]
          simp only [Option.map_some, beq_iff_eq, Option.some.injEq, Bool.and_eq_true, decide_eq_true_eq]
          exact h
theorem zst_lays {s U : State} {c n d : String} (hW : s.WarmedH U.vm) (hh : ∀ (q : Nat) (cell : Cell), s.heap[q]? = some cell → cell.vm.isStatics = true → U.heap[q]? = some cell)
    (h : (Cond.laysStatic c n d).before #[] s = true) : (Cond.laysStatic c n d).before #[] U = true :=
  zst_lays0 (s := s.setVm U.vm) (U := U) rfl hh (Cond.holds_shifted (args := #[]) (o := none) (State.Shifted.of_warmed hW) (Cond.laysStatic c n d) [] rfl h)
theorem zst_ref0 {s U : State} {c n d : String} (hvm : s.vm = U.vm) (hh : ∀ (q : Nat) (cell : Cell), s.heap[q]? = some cell → cell.vm.isStatics = true → U.heap[q]? = some cell)
    (h : (Cond.isRef (.static c n d)).before #[] s = true) : (Cond.isRef (.static c n d)).before #[] U = true := by
  simp only [Cond.before, Cond.holds, Cond.value] at h ⊢
  cases he : (Term.static c n d).eval #[] s none [] s with
  | none => rw [he] at h; simp at h
  | some v =>
    rw [zst_eval hvm hh he]
    rw [he] at h
    exact h
theorem zTb.blind {U : State} (h : zTb U) {g : JFrame} {mk : MethodId} {a : Array Value} : zTb (U.calling g mk a) := by
  refine ⟨fun w hw => va_Nw.same (u := U) (U := U.calling g mk a) (zok_on (List.mem_filter.mp hw).2) rfl (h.1 w hw), fun w hw => ?_, fun i j hi hj hij => va_Nc.moved (u := U) (U := U.calling g mk a) (Vm.Alike.refl _) (h.2.2 i j hi hj hij)⟩
  have := h.2.1 w hw
  simp only [zWH, List.mem_cons, List.not_mem_nil, or_false] at hw
  rcases hw with rfl | rfl | rfl | rfl
  · exact zst_ref0 (s := U) rfl (fun _ _ h _ => h) this
  · exact zst_ref0 (s := U) rfl (fun _ _ h _ => h) this
  · exact zst_lays0 (s := U) rfl (fun _ _ h _ => h) this
  · exact zst_lays0 (s := U) rfl (fun _ _ h _ => h) this
end
section
/-! 02: the machine seen as a memory of numbers: places for addresses, a pure frame, one rule an instruction -/
abbrev zM : Type := Nat → Nat → Int
abbrev zV : Type := Int ⊕ (Nat ⊕ Int)
abbrev zO : Type := Option zV ⊕ Nat
abbrev zi (v : Int) : zV := Sum.inl v
abbrev zp (p : Nat) : zV := Sum.inr (Sum.inl p)
abbrev zl (v : Int) : zV := Sum.inr (Sum.inr v)
def zcv (ad : Nat → Nat) (v : zV) : Value := match v with
  | .inl v => .int (Int32.ofInt v)
  | .inr (.inl p) => .ref (ad p)
  | .inr (.inr v) => .long (Int64.ofInt v)
def zcat (v : zV) : Nat := match v with
  | .inr (.inr _) => 2
  | _ => 1
theorem zcat_cv (ad : Nat → Nat) (v : zV) : (zcv ad v).category = zcat v := by
  rcases v with v | p | v <;> rfl
def zup (μ : zM) (p i : Nat) (v : Int) : zM := fun q j => if q = p then (if j = i then v else μ p j) else μ q j
theorem zup_ne (μ : zM) {p q : Nat} (i : Nat) (v : Int) (h : q ≠ p) : zup μ p i v q = μ q := by
  funext j
  simp [zup, h]
theorem zup_self (μ : zM) (p i : Nat) (v : Int) : zup μ p i v p = fun j => if j = i then v else μ p j := by
  funext j
  simp [zup]
theorem zup_at (μ : zM) (p i q j : Nat) (v : Int) : zup μ p i v q j = if q = p ∧ j = i then v else μ q j := by
  by_cases h : q = p
  · subst h
    by_cases h2 : j = i <;> simp [zup, h2]
  · simp [zup, h]
/-! the world: zN places; zK: what lies at a place (an array: kind and length; an object: number of its class); zR: the place to which a reference leads -/
def zfv (ad : Nat → Nat) (p ci : Nat) (f : Nat → Int) (k : Nat) : Value := if zI ci k = true then .ref (ad (zR p k)) else .int (Int32.ofInt (f k))
def zce (cA : Nat → ClassId) (ad : Nat → Nat) (p : Nat) (f : Nat → Int) : va_E := match zK p with
  | .inl (0, n) => .inl (cA 0, n, .inl (fun j => Int32.ofInt (f j)))
  | .inl (1, n) => .inl (cA 1, n, .inl (fun j => Int32.ofInt (f j)))
  | .inl (2, n) => .inl (cA 2, n, .inr (.inl (fun j => Int64.ofInt (f j))))
  | .inl (_, n) => .inl (cA 3, n, .inr (.inr (.inr (.inr (fun j => some (ad (zR p j)))))))
  | .inr ci => .inr (ci, (List.range (zF ci)).map (zfv ad p ci f))
def zW (cA : Nat → ClassId) (ad : Nat → Nat) (μ : zM) : va_W := (List.range zN).map (fun p => (ad p, zce cA ad p (μ p)))
def zty (cA : Nat → ClassId) : List (ClassId × FieldType) := [(cA 0, .int), (cA 1, .boolean), (cA 2, .long), (cA 3, .object zAo)]
theorem zW_get {cA : Nat → ClassId} {ad : Nat → Nat} {μ : zM} {p : Nat} (hp : p < zN) : (zW cA ad μ)[p]? = some (ad p, zce cA ad p (μ p)) := by
  rw [zW, List.getElem?_map, List.getElem?_range hp]
  rfl
theorem zW_len {cA : Nat → ClassId} {ad : Nat → Nat} {μ : zM} : (zW cA ad μ).length = zN := by
  rw [zW, List.length_map, List.length_range]
theorem zW_inv {cA : Nat → ClassId} {ad : Nat → Nat} {μ : zM} {k : Nat} {q : Nat × va_E} (h : (zW cA ad μ)[k]? = some q) : k < zN ∧ q = (ad k, zce cA ad k (μ k)) := by
  have hk : k < zN := by
    have := (List.getElem?_eq_some_iff.mp h).1
    rwa [zW_len] at this
  rw [zW_get hk] at h
  exact ⟨hk, (Option.some.inj h).symm⟩
theorem zW_set {cA : Nat → ClassId} {ad : Nat → Nat} {μ μ' : zM} {p : Nat} (h : ∀ q, q ≠ p → μ' q = μ q) : (zW cA ad μ).set p (ad p, zce cA ad p (μ' p)) = zW cA ad μ' := by
  apply List.ext_getElem?
  intro k
  by_cases hN : k < zN
  · by_cases hk : k = p
    · subst hk
      rw [List.getElem?_set_self (by rw [zW_len]; exact hN), zW_get hN]
    · rw [List.getElem?_set_ne (Ne.symm hk), zW_get hN, zW_get hN, h k hk]
  · rw [List.getElem?_eq_none (by rw [List.length_set, zW_len]; omega), List.getElem?_eq_none (by rw [zW_len]; omega)]
def zJ (ad : Nat → Nat) : Prop := ∀ i j : Nat, i < zN → j < zN → ad i = ad j → i = j
def zA (ad : Nat → Nat) (sz : Nat) : Nat → Prop := fun q => (∃ p, p < zN ∧ ad p = q) ∨ sz ≤ q
theorem zD_of {cA : Nat → ClassId} {ad : Nat → Nat} {μ : zM} {sz : Nat} (hJ : zJ ad) : va_D (zA ad sz) (zW cA ad μ) := by
  refine ⟨fun i j p q hi hj hpq => ?_, fun k q hk => ?_⟩
  · obtain ⟨h1, rfl⟩ := zW_inv hi
    obtain ⟨h2, rfl⟩ := zW_inv hj
    exact hJ i j h1 h2 hpq
  · obtain ⟨h1, rfl⟩ := zW_inv hk
    exact Or.inl ⟨k, h1, rfl⟩
/-! the locals: known ones by their numbers -/
def zL (ad : Nat → Nat) (nL : Nat) (L : List (Option zV)) (ls : Array Slot) : Prop := L.length = nL ∧ ls.size = nL ∧ lv_wf ls ∧ ∀ (i : Nat) (v : zV), L[i]? = some (some v) → zcat v = 1 ∧ ls[i]? = some (.val (zcv ad v))
def zprs (ad : Nat → Nat) (L : List (Option zV)) : List (Nat × Value) := (List.range L.length).filterMap (fun i => match L[i]? with | some (some v) => some (i, zcv ad v) | _ => none)
theorem zprs_mem {ad : Nat → Nat} {L : List (Option zV)} {i : Nat} {v : zV} (h : L[i]? = some (some v)) : (i, zcv ad v) ∈ zprs ad L := by
  refine List.mem_filterMap.mpr ⟨i, List.mem_range.mpr (List.getElem?_eq_some_iff.mp h).1, ?_⟩
  rw [h]
theorem zprs_inv {ad : Nat → Nat} {L : List (Option zV)} {q : Nat × Value} (h : q ∈ zprs ad L) : ∃ v, L[q.1]? = some (some v) ∧ q.2 = zcv ad v := by
  obtain ⟨i, -, h2⟩ := List.mem_filterMap.mp h
  split at h2
  · next v hv =>
    cases h2
    exact ⟨v, hv, rfl⟩
  · cases h2
theorem zL_has {ad : Nat → Nat} {nL : Nat} {L : List (Option zV)} {ls : Array Slot} (h : zL ad nL L ls) : lv_has ls nL (zprs ad L) := by
  refine ⟨h.2.1, h.2.2.1, fun q hq => ?_⟩
  obtain ⟨v, h1, h2⟩ := zprs_inv hq
  rw [h2]
  exact (h.2.2.2 _ v h1).2
theorem zL_set {ad : Nat → Nat} {nL : Nat} {L : List (Option zV)} {ls ls' : Array Slot} {i : Nat} {v : zV} (h : zL ad nL L ls) (hv : zcat v = 1)
    (h' : lv_has ls' nL ((i, zcv ad v) :: (zprs ad L).filter (fun q => !(q.1 == i) && !(q.1 + 1 == i && q.2.category == 2)))) : zL ad nL (L.set i (some v)) ls' := by
  refine ⟨by rw [List.length_set]; exact h.1, h'.1, h'.2.1, fun j w hj => ?_⟩
  by_cases hij : j = i
  · subst hij
    by_cases hl : j < L.length
    · rw [List.getElem?_set_self hl] at hj
      cases hj
      exact ⟨hv, h'.2.2 _ List.mem_cons_self⟩
    · rw [List.getElem?_eq_none (by rw [List.length_set]; omega)] at hj
      cases hj
  · rw [List.getElem?_set_ne (Ne.symm hij)] at hj
    have hc := (h.2.2.2 j w hj).1
    refine ⟨hc, h'.2.2 (j, zcv ad w) (List.mem_cons_of_mem _ (List.mem_filter.mpr ⟨zprs_mem hj, ?_⟩))⟩
    have h1 : (zcv ad w).category = 1 := by rw [zcat_cv]; exact hc
    simp [hij, h1]
/-- a local of which no more is known -/
theorem zL_drop {ad : Nat → Nat} {nL : Nat} {L : List (Option zV)} {ls ls' : Array Slot} {i : Nat} {x : Value} (h : zL ad nL L ls)
    (h' : lv_has ls' nL ((i, x) :: (zprs ad L).filter (fun q => !(q.1 == i) && !(q.1 + 1 == i && q.2.category == 2)))) : zL ad nL (L.set i none) ls' := by
  refine ⟨by rw [List.length_set]; exact h.1, h'.1, h'.2.1, fun j w hj => ?_⟩
  by_cases hij : j = i
  · subst hij
    by_cases hl : j < L.length
    · rw [List.getElem?_set_self hl] at hj
      cases hj
    · rw [List.getElem?_eq_none (by rw [List.length_set]; omega)] at hj
      cases hj
  · rw [List.getElem?_set_ne (Ne.symm hij)] at hj
    have hc := (h.2.2.2 j w hj).1
    refine ⟨hc, h'.2.2 (j, zcv ad w) (List.mem_cons_of_mem _ (List.mem_filter.mpr ⟨zprs_mem hj, ?_⟩))⟩
    have h1 : (zcv ad w).category = 1 := by rw [zcat_cv]; exact hc
    simp [hij, h1]
theorem zL_forget {ad : Nat → Nat} {nL : Nat} {L L' : List (Option zV)} {ls : Array Slot} (h : zL ad nL L ls) (hl : L'.length = L.length) (hs : ∀ (i : Nat) (v : zV), L'[i]? = some (some v) → L[i]? = some (some v)) : zL ad nL L' ls :=
  ⟨by rw [hl]; exact h.1, h.2.1, h.2.2.1, fun i v hi => h.2.2.2 i v (hs i v hi)⟩
theorem zargs_mem {ad : Nat → Nat} : ∀ (as : List zV) (k : Nat), (∀ v ∈ as, zcat v = 1) → ∀ (i : Nat) (v : zV), as[i]? = some v → (k + i, zcv ad v) ∈ lv_args k (as.map (zcv ad)) := by
  intro as
  induction as with
  | nil => intro k _ i v h; simp at h
  | cons a t ih =>
    intro k hc i v h
    have ha : ¬ (zcv ad a).category = 2 := by
      rw [zcat_cv, hc a List.mem_cons_self]
      decide
    simp only [List.map_cons, lv_args, if_neg ha]
    cases i with
    | zero =>
      simp at h
      subst h
      exact List.mem_cons_self
    | succ i =>
      refine List.mem_cons_of_mem _ ?_
      have := ih (k + 1) (fun v hv => hc v (List.mem_cons_of_mem _ hv)) i v (by simpa using h)
      rwa [show k + 1 + i = k + (i + 1) by omega] at this
theorem zsl_len {ad : Nat → Nat} : ∀ (as : List zV), (∀ v ∈ as, zcat v = 1) → (lg_sl (as.map (zcv ad))).length = as.length := by
  intro as
  induction as with
  | nil => intro _; rfl
  | cons a t ih =>
    intro hc
    have ha : ¬ (zcv ad a).category = 2 := by
      rw [zcat_cv, hc a List.mem_cons_self]
      decide
    have := ih (fun v hv => hc v (List.mem_cons_of_mem _ hv))
    simp only [lg_sl, List.map_cons, List.flatMap_cons, if_neg ha, List.length_append, List.length_cons, List.length_nil] at this ⊢
    omega
theorem zL_entry {ad : Nat → Nat} {nL : Nat} {as : List zV} {L : List (Option zV)} (hc : ∀ v ∈ as, zcat v = 1) (hn : as.length ≤ nL) (hL : L = as.map some ++ List.replicate (nL - as.length) none) :
    zL ad nL L ((lg_sl (as.map (zcv ad)) ++ List.replicate (nL - (lg_sl (as.map (zcv ad))).length) Slot.unset).toArray) := by
  have hs := zsl_len (ad := ad) as hc
  have h := lv_entry (as.map (zcv ad)) (n := nL) (by rw [hs]; exact hn)
  subst hL
  refine ⟨by simp; omega, h.1, h.2.1, fun i v hi => ?_⟩
  have hi2 : as[i]? = some v := by
    by_cases hl : i < as.length
    · rw [List.getElem?_append_left (by simpa using hl), List.getElem?_map] at hi
      cases ha : as[i]? with
      | none => rw [ha] at hi; cases hi
      | some w => rw [ha] at hi; cases hi; rfl
    · rw [List.getElem?_append_right (by simpa using hl)] at hi
      have := List.eq_of_mem_replicate (List.mem_of_getElem? hi)
      cases this
  refine ⟨hc v (List.mem_of_getElem? hi2), ?_⟩
  have := h.2.2 (0 + i, zcv ad v) (zargs_mem as 0 hc i v hi2)
  simpa using this
/-! a method under way: the fixed things of its walk in one tuple -/
abbrev zG : Type := Program × Launch × Env × State × MethodId × Array Value × List Frame × Method × Code × va_G × (Nat → ClassId) × (Nat → Nat)
def zRm (fr nb lo : Nat) : Room := { frames := fr, cells := nb, slots := 6 * nb, locals := lo }
def zhd (y : MethodName) (cc : ByteArray) (nL : Nat) (rt : Option FieldType) (hh : List (Nat × Nat × Nat × Nat)) : Cond := match hh with
  | [] => .code y cc nL rt
  | _ => .codeWith y cc nL rt hh
theorem zhd_spec {y : MethodName} {cc : ByteArray} {nL : Nat} {rt : Option FieldType} {hh : List (Nat × Nat × Nat × Nat)} {a : Array Value} {U : State} {m : MethodId} (hn : U.methodNamed? y = some m) (h : (zhd y cc nL rt hh).before a U = true) :
    ∃ meth c, U.vm.method? m = some meth ∧ meth.code = some c ∧ c.code = cc ∧ c.maxLocals = nL ∧ meth.sig.returnType = rt ∧ meth.locks = false ∧
      c.exceptionTable.toList.map (fun h => (h.startPc, h.endPc, h.handlerPc, h.catchType)) = hh ∧ parseMethodDescriptor y.desc = some meth.sig := by
  cases hh with
  | nil =>
    obtain ⟨meth, c, h1, h2, h3, h4, h5, h6, h7, h8⟩ := Cond.code_spec hn h
    refine ⟨meth, c, h1, h2, h3, h4, h5, h6, ?_, h8⟩
    have h0 : c.exceptionTable.size = 0 := by simpa [Array.isEmpty] using h7
    have h1 : c.exceptionTable.toList = [] := List.eq_nil_of_length_eq_zero (by simpa using h0)
    rw [h1]
    rfl
  | cons q r =>
    obtain ⟨m9, meth, c, hn9, h1, h2, h3, h4, h7, h5, h6, h8⟩ := Cond.codeWith_spec h
    cases hn.symm.trans hn9
    exact ⟨meth, c, h1, h2, h3, h4, h5, h6, h7, h8⟩
def zOut (ad : Nat → Nat) (s t : State) (po : zO) (o : Outcome) : Prop := match po with
  | .inl v => o = .returned (v.map (zcv ad))
  | .inr k => ∃ (a : Nat) (ce : Cell), o = .threw a ∧ s.heap.size ≤ a ∧ t.heap[a]? = some ce ∧ s.vm.findClass (zEx k) = some ce.cls ∧ ce.vm = .none
/-- the end of an invocation that began at s -/
def zEnd (D : va_G) (cA : Nat → ClassId) (ad : Nat → Nat) (nb : Nat) (pb : Bool) (Q : zO → zM → Prop) (s : State) (o : Outcome) (t : State) : Prop :=
  (s.WarmedH t.vm ∧ va_F (zA ad s.heap.size) s t ∧ ∃ po μ', zOut ad s t po o ∧ va_P D zcl (zW cA ad μ') t.heap ∧ Q po μ') ∧
  ∃ Lc, s.sameButNew ({ t with vm := s.vm } : State) Lc nb (6 * nb) ∧ ∀ q ∈ Lc, pb = false ∧ zA ad s.heap.size q.base
def zFin (Γ : zG) (nb : Nat) (pb : Bool) (Q : zO → zM → Prop) : State → Prop := match Γ with
  | (_, _, _, s, _, _, below, _, _, D, cA, ad) => fun t => ∃ o, t.status = .running ∧ Ended t below o ∧ zEnd D cA ad nb pb Q s o t
def zX (Γ : zG) (cc : ByteArray) (own : String) (nL : Nat) (rt : Option FieldType) (hh : List (Nat × Nat × Nat × Nat)) : Prop := match Γ with
  | (p, l, e, s, m, _, _, meth, c, D, cA, ad) =>
    p.tables.exec = Jvm.exec ∧ c.code = cc ∧ c.maxLocals = nL ∧ meth.sig.returnType = rt ∧ meth.locks = false ∧
    c.exceptionTable.toList.map (fun h => (h.startPc, h.endPc, h.handlerPc, h.catchType)) = hh ∧
    s.vm.findClass own = some m.cls ∧ zTb s ∧ va_K D zcl (zty cA) s ∧ zJ ad ∧ l.stackTraces = false ∧ e.platform.stackTraces = false ∧ ∃ μ0, va_P D zcl (zW cA ad μ0) s.heap
/-- the machine, at pc with memory μ, locals L and operand stack st, comes to an end with Fn; n throws' worth of cells have been used -/
def zU (Γ : zG) (cc : ByteArray) (own : String) (nL : Nat) (rt : Option FieldType) (hh : List (Nat × Nat × Nat × Nat)) (R : Room) (k0 s0 : Nat) (Fn : State → Prop) (b : Bool) (n : Nat) (μ : zM) (pc : Nat) (L : List (Option zV)) (st : List zV) : Prop :=
  zX Γ cc own nL rt hh → match Γ with
  | (p, l, e, s, m, args, below, meth, c, D, cA, ad) =>
    ∀ (H : Heap) (locs : List Loc) (ls : Array Slot), va_P D zcl (zW cA ad μ) H → va_S (zA ad s.heap.size) s.heap H locs → (b = true → locs = []) → zL ad nL L ls →
      W p l e R s m args below meth c H locs (n + k0) (6 * n + s0) Fn (F0 m pc ls (st.map (zcv ad)))
/-- the machine, at pc, where an exception of the kind k has just been thrown -/
def zThr (Γ : zG) (cc : ByteArray) (own : String) (nL : Nat) (rt : Option FieldType) (hh : List (Nat × Nat × Nat × Nat)) (R : Room) (k0 s0 : Nat) (Fn : State → Prop) (b : Bool) (n : Nat) (μ : zM) (pc : Nat) (L : List (Option zV)) (st : List zV) (k : Nat) : Prop :=
  zX Γ cc own nL rt hh → match Γ with
  | (p, l, e, s, m, args, below, meth, c, D, cA, ad) =>
    ∀ (T' : State) (locs' : List Loc) (x : Nat) (ce : Cell) (ls : Array Slot), va_P D zcl (zW cA ad μ) T'.heap → va_S (zA ad s.heap.size) s.heap T'.heap locs' → (b = true → locs' = []) → zL ad nL L ls → Stand p l e R s m args below meth c T' locs' (n + k0) (6 * n + s0) →
      s.heap.size ≤ x → T'.heap[x]? = some ce → s.vm.findClass (zEx k) = some ce.cls → ce.vm = .none → ∃ t, Steps p.tables e below ((T'.setTop (F0 m pc ls (st.map (zcv ad)))).pushFrame (.throwing x)) t ∧ Fn t
/-- a method's contract: with these arguments, from any state that holds the memory μ, it ends, and Q of its outcome and its memory -/
def zC (l : Launch) (y : MethodName) (cc : ByteArray) (nL : Nat) (rt : Option FieldType) (hh : List (Nat × Nat × Nat × Nat)) (fr nb lo : Nat) (pb : Bool) (as : List zV) (μ : zM) (Q : zO → zM → Prop) : Prop :=
  l.stackTraces = false → ∀ (D : va_G) (cA : Nat → ClassId) (ad : Nat → Nat), MetFree l y (headSpec [zhd y cc nL rt hh] (zRm fr nb lo))
    (fun v U => v = (as.map (zcv ad)).toArray ∧ zTb U ∧ va_K D zcl (zty cA) U ∧ zJ ad ∧ va_P D zcl (zW cA ad μ) U.heap)
    (fun _ _ _ _ _ => True) (fun _ U o t => zEnd D cA ad nb pb Q U o t)
section ZA
variable {p : Program} {l : Launch} {e : Env} {R : Room} {s : State} {m : MethodId} {args : Array Value} {below : List Frame} {meth : Method} {c : Code} {H : Heap} {locs : List Loc} {cells slots : Nat} {Q Q' : State → Prop} {g : JFrame}
theorem zmono (h : ∀ t, Q t → Q' t) (k : W p l e R s m args below meth c H locs cells slots Q g) : W p l e R s m args below meth c H locs cells slots Q' g := by
  intro T hT X
  obtain ⟨t, a, b⟩ := k T hT X
  exact ⟨t, a, h t b⟩
end ZA
set_option maxHeartbeats 1000000 in
theorem zC.of {l : Launch} {y : MethodName} {cc : ByteArray} {own : String} {nL : Nat} {rt : Option FieldType} {hh : List (Nat × Nat × Nat × Nat)} {fr nb lo : Nat} {pb : Bool} {as : List zV} {μ : zM} {Q : zO → zM → Prop} {L : List (Option zV)}
    (hy : plainName y.cls = true) (ho : y.cls = own) (hc : ∀ v ∈ as, zcat v = 1) (hn : as.length ≤ nL) (hL : L = as.map some ++ List.replicate (nL - as.length) none)
    (body : ∀ Γ : zG, zU Γ cc own nL rt hh (zRm fr nb lo) 0 0 (zFin Γ nb pb Q) true 0 μ 0 L []) : zC l y cc nL rt hh fr nb lo pb as μ Q := by
  intro htr D cA ad
  refine MetFree.of_bodyS (code := cc) (maxLocals := nL) (ret := rt) hy ?_ ?_
  · intro args s m h hn
    obtain ⟨meth, c, h1, h2, h3, h4, h5, h6, -, -⟩ := zhd_spec hn (atoms_spec (ws := [zhd y cc nL rt hh]) h _ List.mem_cons_self)
    exact ⟨meth, c, h1, h2, h3, h4, h5, h6⟩
  · intro p e s m args below meth c s₁ B hml hP _
    obtain ⟨rfl, hT, hK, hJ, hW⟩ := hP
    have hh0 : s₁.heap = s.heap := by rw [B.state]; rfl
    have X0 := Stand.of_body B
    obtain ⟨meth', c', g1, g2, -, -, -, -, g7, -⟩ := zhd_spec B.named (atoms_spec (ws := [zhd y cc nL rt hh]) B.pre _ List.mem_cons_self)
    cases B.method.symm.trans g1
    cases X0.code.symm.trans g2
    have he : e.platform.stackTraces = false := by rw [B.admits.platform]; exact htr
    have hown : s.vm.findClass own = some m.cls := by rw [← ho]; exact findClass_of_methodNamed B.named
    have k := body (p, l, e, s, m, (as.map (zcv ad)).toArray, below, meth, c, D, cA, ad) ⟨B.exec, B.bytes, hml, B.returns, B.notSynchronized, g7, hown, hT, hK, hJ, htr, he, μ, hW⟩
      s.heap [] _ hW va_S.rf (fun _ => rfl) (zL_entry hc hn hL)
    have k2 : W p l e (zRm fr nb lo) s m (as.map (zcv ad)).toArray below meth c s.heap [] 0 0 (zFin (p, l, e, s, m, (as.map (zcv ad)).toArray, below, meth, c, D, cA, ad) nb pb Q) (entryFrame m (as.map (zcv ad)).toArray nL) := by
      rw [lg_entry_eq]
      exact k
    obtain ⟨t, a1, o, b1, b2, b3⟩ := k2 s₁ hh0 X0
    exact ⟨t, o, a1, b1, b2, b3⟩
section ZR
variable {Γ : zG} {cc : ByteArray} {own : String} {nL : Nat} {rt : Option FieldType} {hh : List (Nat × Nat × Nat × Nat)} {R : Room} {k0 s0 : Nat} {Fn : State → Prop} {b : Bool} {n : Nat} {μ : zM} {pc : Nat} {L : List (Option zV)} {st : List zV}
theorem zU.eqL {L' : List (Option zV)} (h : L = L') (kk : zU Γ cc own nL rt hh R k0 s0 Fn b n μ pc L' st) : zU Γ cc own nL rt hh R k0 s0 Fn b n μ pc L st := h ▸ kk
theorem zU.eqS {st' : List zV} (h : st = st') (kk : zU Γ cc own nL rt hh R k0 s0 Fn b n μ pc L st') : zU Γ cc own nL rt hh R k0 s0 Fn b n μ pc L st := h ▸ kk
theorem zU.eqM {μ' : zM} (h : μ = μ') (kk : zU Γ cc own nL rt hh R k0 s0 Fn b n μ' pc L st) : zU Γ cc own nL rt hh R k0 s0 Fn b n μ pc L st := h ▸ kk
theorem zU.loose (kk : zU Γ cc own nL rt hh R k0 s0 Fn false n μ pc L st) : zU Γ cc own nL rt hh R k0 s0 Fn b n μ pc L st := by
  obtain ⟨p, l, e, s, m, args, below, meth, c, D, cA, ad⟩ := Γ
  intro X H locs ls hP hS hb hl
  exact kk X H locs ls hP hS (fun h => by cases h) hl
theorem zU.forget {L' : List (Option zV)} (hl' : L'.length = L.length) (hs : ∀ (i : Nat) (v : zV), L'[i]? = some (some v) → L[i]? = some (some v)) (kk : zU Γ cc own nL rt hh R k0 s0 Fn b n μ pc L' st) : zU Γ cc own nL rt hh R k0 s0 Fn b n μ pc L st := by
  obtain ⟨p, l, e, s, m, args, below, meth, c, D, cA, ad⟩ := Γ
  intro X H locs ls hP hS hb hl
  exact kk X H locs ls hP hS hb (zL_forget hl hl' hs)
theorem zU.widen {n' : Nat} (h : n ≤ n') (kk : zU Γ cc own nL rt hh R k0 s0 Fn b n' μ pc L st) : zU Γ cc own nL rt hh R k0 s0 Fn b n μ pc L st := by
  obtain ⟨p, l, e, s, m, args, below, meth, c, D, cA, ad⟩ := Γ
  intro X H locs ls hP hS hb hl
  exact W.widen (by omega) (by omega) (kk X H locs ls hP hS hb hl)
theorem zU_iconst {k : Int} (d : decode cc pc = .ok (.iconst k, 1)) (kk : zU Γ cc own nL rt hh R k0 s0 Fn b n μ (pc + 1) L (zi k :: st)) : zU Γ cc own nL rt hh R k0 s0 Fn b n μ pc L st := by
  obtain ⟨p, l, e, s, m, args, below, meth, c, D, cA, ad⟩ := Γ
  intro X H locs ls hP hS hb hl
  exact lv_iconst X.1 X.2.1 d rfl (kk X H locs ls hP hS hb hl)
theorem zU_bipush {k : Int} (d : decode cc pc = .ok (.bipush k, 2)) (hv : (Int8.ofInt k).toInt32 = Int32.ofInt k) (kk : zU Γ cc own nL rt hh R k0 s0 Fn b n μ (pc + 2) L (zi k :: st)) : zU Γ cc own nL rt hh R k0 s0 Fn b n μ pc L st := by
  obtain ⟨p, l, e, s, m, args, below, meth, c, D, cA, ad⟩ := Γ
  intro X H locs ls hP hS hb hl
  exact lv_bipush X.1 X.2.1 d hv (kk X H locs ls hP hS hb hl)
theorem zU_sipush {k : Int} (d : decode cc pc = .ok (.sipush k, 3)) (hv : (Int16.ofInt k).toInt32 = Int32.ofInt k) (kk : zU Γ cc own nL rt hh R k0 s0 Fn b n μ (pc + 3) L (zi k :: st)) : zU Γ cc own nL rt hh R k0 s0 Fn b n μ pc L st := by
  obtain ⟨p, l, e, s, m, args, below, meth, c, D, cA, ad⟩ := Γ
  intro X H locs ls hP hS hb hl
  exact lv_sipush X.1 X.2.1 d hv (kk X H locs ls hP hS hb hl)
theorem zU_lconst {k : Fin 2} {v : Int} (d : decode cc pc = .ok (.lconst k, 1)) (hv : Int64.ofNat (k : Nat) = Int64.ofInt v) (kk : zU Γ cc own nL rt hh R k0 s0 Fn b n μ (pc + 1) L (zl v :: st)) : zU Γ cc own nL rt hh R k0 s0 Fn b n μ pc L st := by
  obtain ⟨p, l, e, s, m, args, below, meth, c, D, cA, ad⟩ := Γ
  intro X H locs ls hP hS hb hl
  exact lv_lconst X.1 X.2.1 d hv (kk X H locs ls hP hS hb hl)
theorem zU_iload_n {k : Fin 4} {v : Int} (d : decode cc pc = .ok (.iload_n k, 1)) (h : L[(k : Nat)]? = some (some (zi v))) (kk : zU Γ cc own nL rt hh R k0 s0 Fn b n μ (pc + 1) L (zi v :: st)) : zU Γ cc own nL rt hh R k0 s0 Fn b n μ pc L st := by
  obtain ⟨p, l, e, s, m, args, below, meth, c, D, cA, ad⟩ := Γ
  intro X H locs ls hP hS hb hl
  exact lv_iload_n X.1 X.2.1 d rfl (hl.2.2.2 _ _ h).2 (kk X H locs ls hP hS hb hl)
theorem zU_iload {k : Nat} {v : Int} (d : decode cc pc = .ok (.iload k, 2)) (h : L[k]? = some (some (zi v))) (kk : zU Γ cc own nL rt hh R k0 s0 Fn b n μ (pc + 2) L (zi v :: st)) : zU Γ cc own nL rt hh R k0 s0 Fn b n μ pc L st := by
  obtain ⟨p, l, e, s, m, args, below, meth, c, D, cA, ad⟩ := Γ
  intro X H locs ls hP hS hb hl
  exact lv_iload X.1 X.2.1 d (hl.2.2.2 _ _ h).2 (kk X H locs ls hP hS hb hl)
theorem zU_aload_n {k : Fin 4} {v : Nat} (d : decode cc pc = .ok (.aload_n k, 1)) (h : L[(k : Nat)]? = some (some (zp v))) (kk : zU Γ cc own nL rt hh R k0 s0 Fn b n μ (pc + 1) L (zp v :: st)) : zU Γ cc own nL rt hh R k0 s0 Fn b n μ pc L st := by
  obtain ⟨p, l, e, s, m, args, below, meth, c, D, cA, ad⟩ := Γ
  intro X H locs ls hP hS hb hl
  exact lv_aload_n X.1 X.2.1 d rfl (hl.2.2.2 _ _ h).2 (kk X H locs ls hP hS hb hl)
theorem zU_aload {k : Nat} {v : Nat} (d : decode cc pc = .ok (.aload k, 2)) (h : L[k]? = some (some (zp v))) (kk : zU Γ cc own nL rt hh R k0 s0 Fn b n μ (pc + 2) L (zp v :: st)) : zU Γ cc own nL rt hh R k0 s0 Fn b n μ pc L st := by
  obtain ⟨p, l, e, s, m, args, below, meth, c, D, cA, ad⟩ := Γ
  intro X H locs ls hP hS hb hl
  exact lv_aload X.1 X.2.1 d (hl.2.2.2 _ _ h).2 (kk X H locs ls hP hS hb hl)
theorem zU_istore_n {k : Fin 4} {v : Int} (d : decode cc pc = .ok (.istore_n k, 1)) (h : (k : Nat) < nL) (kk : zU Γ cc own nL rt hh R k0 s0 Fn b n μ (pc + 1) (L.set (k : Nat) (some (zi v))) st) : zU Γ cc own nL rt hh R k0 s0 Fn b n μ pc L (zi v :: st) := by
  obtain ⟨p, l, e, s, m, args, below, meth, c, D, cA, ad⟩ := Γ
  intro X H locs ls hP hS hb hl
  exact lv_istore_n X.1 X.2.1 d rfl (zL_has hl) h rfl (fun ls' h' => kk X H locs ls' hP hS hb (zL_set (v := zi v) hl rfl h'))
theorem zU_istore {k : Nat} {v : Int} (d : decode cc pc = .ok (.istore k, 2)) (h : k < nL) (kk : zU Γ cc own nL rt hh R k0 s0 Fn b n μ (pc + 2) (L.set k (some (zi v))) st) : zU Γ cc own nL rt hh R k0 s0 Fn b n μ pc L (zi v :: st) := by
  obtain ⟨p, l, e, s, m, args, below, meth, c, D, cA, ad⟩ := Γ
  intro X H locs ls hP hS hb hl
  exact lv_istore X.1 X.2.1 d (zL_has hl) h rfl (fun ls' h' => kk X H locs ls' hP hS hb (zL_set (v := zi v) hl rfl h'))
theorem zU_astore_n {k : Fin 4} {v : Nat} (d : decode cc pc = .ok (.astore_n k, 1)) (h : (k : Nat) < nL) (kk : zU Γ cc own nL rt hh R k0 s0 Fn b n μ (pc + 1) (L.set (k : Nat) (some (zp v))) st) : zU Γ cc own nL rt hh R k0 s0 Fn b n μ pc L (zp v :: st) := by
  obtain ⟨p, l, e, s, m, args, below, meth, c, D, cA, ad⟩ := Γ
  intro X H locs ls hP hS hb hl
  exact lv_astore_n X.1 X.2.1 d rfl (zL_has hl) h rfl (fun ls' h' => kk X H locs ls' hP hS hb (zL_set (v := zp v) hl rfl h'))
theorem zU_astore {k : Nat} {v : Nat} (d : decode cc pc = .ok (.astore k, 2)) (h : k < nL) (kk : zU Γ cc own nL rt hh R k0 s0 Fn b n μ (pc + 2) (L.set k (some (zp v))) st) : zU Γ cc own nL rt hh R k0 s0 Fn b n μ pc L (zp v :: st) := by
  obtain ⟨p, l, e, s, m, args, below, meth, c, D, cA, ad⟩ := Γ
  intro X H locs ls hP hS hb hl
  exact lv_astore X.1 X.2.1 d (zL_has hl) h rfl (fun ls' h' => kk X H locs ls' hP hS hb (zL_set (v := zp v) hl rfl h'))
theorem zU_iinc {k : Nat} {v w : Int} (d : decode cc pc = .ok (.iinc k w, 3)) (h : L[k]? = some (some (zi v))) (kk : zU Γ cc own nL rt hh R k0 s0 Fn b n μ (pc + 3) (L.set k (some (zi (v + w)))) st) : zU Γ cc own nL rt hh R k0 s0 Fn b n μ pc L st := by
  obtain ⟨p, l, e, s, m, args, below, meth, c, D, cA, ad⟩ := Γ
  intro X H locs ls hP hS hb hl
  have hk : k < nL := by rw [← hl.1]; exact (List.getElem?_eq_some_iff.mp h).1
  obtain ⟨j, hj⟩ := List.getElem?_of_mem (zprs_mem (ad := ad) h)
  exact lv_iinc X.1 X.2.1 d (zL_has hl) hj (v := Int32.ofInt (v + w)) (by rw [Int32.ofInt_add]) hk rfl (fun ls' h' => kk X H locs ls' hP hS hb (zL_set (v := zi (v + w)) hl rfl h'))
theorem zU_iadd {x y : Int} (d : decode cc pc = .ok (.iadd, 1)) (kk : zU Γ cc own nL rt hh R k0 s0 Fn b n μ (pc + 1) L (zi (x + y) :: st)) : zU Γ cc own nL rt hh R k0 s0 Fn b n μ pc L (zi y :: zi x :: st) := by
  obtain ⟨p, l, e, s, m, args, below, meth, c, D, cA, ad⟩ := Γ
  intro X H locs ls hP hS hb hl
  refine lv_iadd (x := Int32.ofInt x) (y := Int32.ofInt y) X.1 X.2.1 d ?_
  rw [← Int32.ofInt_add]
  exact kk X H locs ls hP hS hb hl
theorem zU_isub {x y : Int} (d : decode cc pc = .ok (.isub, 1)) (kk : zU Γ cc own nL rt hh R k0 s0 Fn b n μ (pc + 1) L (zi (x - y) :: st)) : zU Γ cc own nL rt hh R k0 s0 Fn b n μ pc L (zi y :: zi x :: st) := by
  obtain ⟨p, l, e, s, m, args, below, meth, c, D, cA, ad⟩ := Γ
  intro X H locs ls hP hS hb hl
  refine lv_isub (x := Int32.ofInt x) (y := Int32.ofInt y) X.1 X.2.1 d ?_
  rw [← Int32.ofInt_sub]
  exact kk X H locs ls hP hS hb hl
theorem zU_imul {x y : Int} (d : decode cc pc = .ok (.imul, 1)) (kk : zU Γ cc own nL rt hh R k0 s0 Fn b n μ (pc + 1) L (zi (x * y) :: st)) : zU Γ cc own nL rt hh R k0 s0 Fn b n μ pc L (zi y :: zi x :: st) := by
  obtain ⟨p, l, e, s, m, args, below, meth, c, D, cA, ad⟩ := Γ
  intro X H locs ls hP hS hb hl
  refine lv_imul (x := Int32.ofInt x) (y := Int32.ofInt y) X.1 X.2.1 d ?_
  rw [← Int32.ofInt_mul]
  exact kk X H locs ls hP hS hb hl
def zR32 (x : Int) : Prop := -2147483648 ≤ x ∧ x ≤ 2147483647
theorem zto {x : Int} (h : -2147483648 ≤ x ∧ x ≤ 2147483647) : (Int32.ofInt x).toInt = x := Int32.toInt_ofInt_of_le (by have := h.1; omega) (by have := h.2; omega)
theorem zinj {x y : Int} (hx : -2147483648 ≤ x ∧ x ≤ 2147483647) (hy : -2147483648 ≤ y ∧ y ≤ 2147483647) : Int32.ofInt x = Int32.ofInt y ↔ x = y := by
  rw [← Int32.toInt_inj, zto hx, zto hy]
theorem zlt {x y : Int} (hx : -2147483648 ≤ x ∧ x ≤ 2147483647) (hy : -2147483648 ≤ y ∧ y ≤ 2147483647) : Int32.ofInt x < Int32.ofInt y ↔ x < y := by
  rw [Int32.lt_iff_toInt_lt, zto hx, zto hy]
theorem zle {x y : Int} (hx : -2147483648 ≤ x ∧ x ≤ 2147483647) (hy : -2147483648 ≤ y ∧ y ≤ 2147483647) : Int32.ofInt x ≤ Int32.ofInt y ↔ x ≤ y := by
  rw [Int32.le_iff_toInt_le, zto hx, zto hy]
theorem zin {i : Int} {N : Nat} (h : 0 ≤ i ∧ i < N) (hN : N ≤ 2147483647) : vp_in (Int32.ofInt i) N ∧ (Int32.ofInt i).toNatClampNeg = i.toNat := by
  have h1 : (Int32.ofInt i).toInt = i := zto (by omega)
  refine ⟨vp_in_iff.mpr (by rw [h1]; exact h), ?_⟩
  show (Int32.ofInt i).toInt.toNat = _
  rw [h1]
theorem zdiv {x y : Int} (hx : 0 ≤ x ∧ x ≤ 2147483647) (hy : 0 < y ∧ y ≤ 2147483647) : Int32.ofInt x / Int32.ofInt y = Int32.ofInt (x / y) := by
  have h1 : (Int32.ofInt x).toInt = x := zto (by omega)
  have h2 : (Int32.ofInt y).toInt = y := zto (by omega)
  have h3 : 0 ≤ x / y := Int.ediv_nonneg hx.1 (by omega)
  have h4 : x / y ≤ x := Int.ediv_le_self _ hx.1
  apply Int32.toInt_inj.mp
  have h5 : Int32.ofInt y ≠ -1 := by
    intro h
    rw [h] at h2
    have h6 : (-1 : Int32).toInt = -1 := by decide
    omega
  rw [Int32.toInt_div_of_ne_right _ _ h5, h1, h2, zto (by omega), Int.tdiv_eq_ediv_of_nonneg hx.1]
theorem zrem {x y : Int} (hx : 0 ≤ x ∧ x ≤ 2147483647) (hy : 0 < y ∧ y ≤ 2147483647) : Int32.ofInt x - Int32.ofInt x / Int32.ofInt y * Int32.ofInt y = Int32.ofInt (x % y) := by
  rw [zdiv hx hy, ← Int32.ofInt_mul, ← Int32.ofInt_sub]
  congr 1
  rw [Int.emod_def, Int.mul_comm]
theorem zU_idiv {x y : Int} (d : decode cc pc = .ok (.idiv, 1)) (hx : 0 ≤ x ∧ x ≤ 2147483647) (hy : 0 < y ∧ y ≤ 2147483647) (kk : zU Γ cc own nL rt hh R k0 s0 Fn b n μ (pc + 1) L (zi (x / y) :: st)) : zU Γ cc own nL rt hh R k0 s0 Fn b n μ pc L (zi y :: zi x :: st) := by
  obtain ⟨p, l, e, s, m, args, below, meth, c, D, cA, ad⟩ := Γ
  intro X H locs ls hP hS hb hl
  refine lv_idiv (x := Int32.ofInt x) (y := Int32.ofInt y) X.1 X.2.1 d (fun h => ?_) ?_
  · have h2 := (zinj (x := y) (y := 0) (by omega) (by omega)).mp (by rw [h]; rfl)
    omega
  rw [zdiv hx hy]
  exact kk X H locs ls hP hS hb hl
theorem zU_irem {x y : Int} (d : decode cc pc = .ok (.irem, 1)) (hx : 0 ≤ x ∧ x ≤ 2147483647) (hy : 0 < y ∧ y ≤ 2147483647) (kk : zU Γ cc own nL rt hh R k0 s0 Fn b n μ (pc + 1) L (zi (x % y) :: st)) : zU Γ cc own nL rt hh R k0 s0 Fn b n μ pc L (zi y :: zi x :: st) := by
  obtain ⟨p, l, e, s, m, args, below, meth, c, D, cA, ad⟩ := Γ
  intro X H locs ls hP hS hb hl
  refine lv_irem (x := Int32.ofInt x) (y := Int32.ofInt y) X.1 X.2.1 d (fun h => ?_) ?_
  · have h2 := (zinj (x := y) (y := 0) (by omega) (by omega)).mp (by rw [h]; rfl)
    omega
  rw [zrem hx hy]
  exact kk X H locs ls hP hS hb hl
def zand (x y : Int) : Int := (Int32.ofInt x &&& Int32.ofInt y).toInt
def zor (x y : Int) : Int := (Int32.ofInt x ||| Int32.ofInt y).toInt
def zxor (x y : Int) : Int := (Int32.ofInt x ^^^ Int32.ofInt y).toInt
def zshl (x y : Int) : Int := (Int32.ofInt x <<< (Int32.ofInt y &&& 31)).toInt
def zshr (x y : Int) : Int := (Int32.ofInt x >>> (Int32.ofInt y &&& 31)).toInt
theorem zU_iand {x y : Int} (d : decode cc pc = .ok (.iand, 1)) (kk : zU Γ cc own nL rt hh R k0 s0 Fn b n μ (pc + 1) L (zi (zand x y) :: st)) : zU Γ cc own nL rt hh R k0 s0 Fn b n μ pc L (zi y :: zi x :: st) := by
  obtain ⟨p, l, e, s, m, args, below, meth, c, D, cA, ad⟩ := Γ
  intro X H locs ls hP hS hb hl
  refine lv_iand (x := Int32.ofInt x) (y := Int32.ofInt y) X.1 X.2.1 d ?_
  have k := kk X H locs ls hP hS hb hl
  simp only [List.map_cons, zcv, zand, Int32.ofInt_toInt] at k
  exact k
theorem zU_ior {x y : Int} (d : decode cc pc = .ok (.ior, 1)) (kk : zU Γ cc own nL rt hh R k0 s0 Fn b n μ (pc + 1) L (zi (zor x y) :: st)) : zU Γ cc own nL rt hh R k0 s0 Fn b n μ pc L (zi y :: zi x :: st) := by
  obtain ⟨p, l, e, s, m, args, below, meth, c, D, cA, ad⟩ := Γ
  intro X H locs ls hP hS hb hl
  refine lv_ior (x := Int32.ofInt x) (y := Int32.ofInt y) X.1 X.2.1 d ?_
  have k := kk X H locs ls hP hS hb hl
  simp only [List.map_cons, zcv, zor, Int32.ofInt_toInt] at k
  exact k
theorem zU_ixor {x y : Int} (d : decode cc pc = .ok (.ixor, 1)) (kk : zU Γ cc own nL rt hh R k0 s0 Fn b n μ (pc + 1) L (zi (zxor x y) :: st)) : zU Γ cc own nL rt hh R k0 s0 Fn b n μ pc L (zi y :: zi x :: st) := by
  obtain ⟨p, l, e, s, m, args, below, meth, c, D, cA, ad⟩ := Γ
  intro X H locs ls hP hS hb hl
  refine lv_ixor (x := Int32.ofInt x) (y := Int32.ofInt y) X.1 X.2.1 d ?_
  have k := kk X H locs ls hP hS hb hl
  simp only [List.map_cons, zcv, zxor, Int32.ofInt_toInt] at k
  exact k
theorem zU_ishl {x y : Int} (d : decode cc pc = .ok (.ishl, 1)) (kk : zU Γ cc own nL rt hh R k0 s0 Fn b n μ (pc + 1) L (zi (zshl x y) :: st)) : zU Γ cc own nL rt hh R k0 s0 Fn b n μ pc L (zi y :: zi x :: st) := by
  obtain ⟨p, l, e, s, m, args, below, meth, c, D, cA, ad⟩ := Γ
  intro X H locs ls hP hS hb hl
  refine lv_ishl (x := Int32.ofInt x) (y := Int32.ofInt y) X.1 X.2.1 d ?_
  have k := kk X H locs ls hP hS hb hl
  simp only [List.map_cons, zcv, zshl, Int32.ofInt_toInt] at k
  exact k
theorem zU_ishr {x y : Int} (d : decode cc pc = .ok (.ishr, 1)) (kk : zU Γ cc own nL rt hh R k0 s0 Fn b n μ (pc + 1) L (zi (zshr x y) :: st)) : zU Γ cc own nL rt hh R k0 s0 Fn b n μ pc L (zi y :: zi x :: st) := by
  obtain ⟨p, l, e, s, m, args, below, meth, c, D, cA, ad⟩ := Γ
  intro X H locs ls hP hS hb hl
  refine lv_ishr (x := Int32.ofInt x) (y := Int32.ofInt y) X.1 X.2.1 d ?_
  have k := kk X H locs ls hP hS hb hl
  simp only [List.map_cons, zcv, zshr, Int32.ofInt_toInt] at k
  exact k
theorem zU_i2l {x : Int} (d : decode cc pc = .ok (.i2l, 1)) (hx : -2147483648 ≤ x ∧ x ≤ 2147483647) (kk : zU Γ cc own nL rt hh R k0 s0 Fn b n μ (pc + 1) L (zl x :: st)) : zU Γ cc own nL rt hh R k0 s0 Fn b n μ pc L (zi x :: st) := by
  obtain ⟨p, l, e, s, m, args, below, meth, c, D, cA, ad⟩ := Γ
  intro X H locs ls hP hS hb hl
  refine lv_i2l (x := Int32.ofInt x) (v := Int64.ofInt x) X.1 X.2.1 d ?_ (kk X H locs ls hP hS hb hl)
  apply Int64.toInt_inj.mp
  rw [Int32.toInt_toInt64, zto hx, Int64.toInt_ofInt_of_le (by have := hx.1; omega) (by have := hx.2; omega)]
theorem zU_lcmp {x y : Int} (d : decode cc pc = .ok (.lcmp, 1)) (hx : -2147483648 ≤ x ∧ x ≤ 2147483647) (hy : -2147483648 ≤ y ∧ y ≤ 2147483647) (kk : zU Γ cc own nL rt hh R k0 s0 Fn b n μ (pc + 1) L (zi (if y < x then 1 else if x < y then -1 else 0) :: st)) : zU Γ cc own nL rt hh R k0 s0 Fn b n μ pc L (zl y :: zl x :: st) := by
  obtain ⟨p, l, e, s, m, args, below, meth, c, D, cA, ad⟩ := Γ
  intro X H locs ls hP hS hb hl
  refine W.lcmp (x := Int64.ofInt x) (y := Int64.ofInt y) X.1 X.2.1 d ?_
  have e1 : (Int64.ofInt x).toInt = x := Int64.toInt_ofInt_of_le (by have := hx.1; omega) (by have := hx.2; omega)
  have e2 : (Int64.ofInt y).toInt = y := Int64.toInt_ofInt_of_le (by have := hy.1; omega) (by have := hy.2; omega)
  have e3 : lg_cmp (Int64.ofInt x) (Int64.ofInt y) = Int32.ofInt (if y < x then 1 else if x < y then -1 else 0) := by
    have he : (Int64.ofInt x = Int64.ofInt y) ↔ x = y := by rw [← Int64.toInt_inj, e1, e2]
    unfold lg_cmp
    simp only [Int64.lt_iff_toInt_lt, e1, e2, he]
    by_cases h1 : y < x
    · simp [h1]
    · by_cases h2 : x < y
      · have h3 : ¬ x = y := by omega
        simp [h1, h2, h3]
      · have h3 : x = y := by omega
        simp [h3]
  rw [e3]
  exact kk X H locs ls hP hS hb hl
theorem zU_dup {v : zV} (d : decode cc pc = .ok (.dup, 1)) (hv : zcat v = 1) (kk : zU Γ cc own nL rt hh R k0 s0 Fn b n μ (pc + 1) L (v :: v :: st)) : zU Γ cc own nL rt hh R k0 s0 Fn b n μ pc L (v :: st) := by
  obtain ⟨p, l, e, s, m, args, below, meth, c, D, cA, ad⟩ := Γ
  intro X H locs ls hP hS hb hl
  exact lv_dup X.1 X.2.1 d (by rw [zcat_cv]; exact hv) (kk X H locs ls hP hS hb hl)
theorem zU_pop {v : zV} (d : decode cc pc = .ok (.pop, 1)) (hv : zcat v = 1) (kk : zU Γ cc own nL rt hh R k0 s0 Fn b n μ (pc + 1) L st) : zU Γ cc own nL rt hh R k0 s0 Fn b n μ pc L (v :: st) := by
  obtain ⟨p, l, e, s, m, args, below, meth, c, D, cA, ad⟩ := Γ
  intro X H locs ls hP hS hb hl
  exact lv_pop X.1 X.2.1 d (by rw [zcat_cv]; exact hv) (kk X H locs ls hP hS hb hl)
theorem zU_dup2 {v w : zV} (d : decode cc pc = .ok (.dup2, 1)) (hv : zcat v = 1) (hw : zcat w = 1) (kk : zU Γ cc own nL rt hh R k0 s0 Fn b n μ (pc + 1) L (v :: w :: v :: w :: st)) : zU Γ cc own nL rt hh R k0 s0 Fn b n μ pc L (v :: w :: st) := by
  obtain ⟨p, l, e, s, m, args, below, meth, c, D, cA, ad⟩ := Γ
  intro X H locs ls hP hS hb hl
  exact lv_dup2_11 X.1 X.2.1 d (by rw [zcat_cv]; exact hv) (by rw [zcat_cv]; exact hw) (kk X H locs ls hP hS hb hl)
theorem zU_dup_x1 {v w : zV} (d : decode cc pc = .ok (.dup_x1, 1)) (hv : zcat v = 1) (hw : zcat w = 1) (kk : zU Γ cc own nL rt hh R k0 s0 Fn b n μ (pc + 1) L (v :: w :: v :: st)) : zU Γ cc own nL rt hh R k0 s0 Fn b n μ pc L (v :: w :: st) := by
  obtain ⟨p, l, e, s, m, args, below, meth, c, D, cA, ad⟩ := Γ
  intro X H locs ls hP hS hb hl
  exact lv_dup_x1 X.1 X.2.1 d (by rw [zcat_cv]; exact hv) (by rw [zcat_cv]; exact hw) (kk X H locs ls hP hS hb hl)
theorem zU_icmp_eq {x y : Int} {off : Int} (tgt : Nat) (d : decode cc pc = .ok (.if_icmp .eq off, 3)) (ht : (pc : Int) + off = (tgt : Int)) (hx : -2147483648 ≤ x ∧ x ≤ 2147483647) (hy : -2147483648 ≤ y ∧ y ≤ 2147483647) (kt : x = y → zU Γ cc own nL rt hh R k0 s0 Fn b n μ tgt L st) (kf : ¬ x = y → zU Γ cc own nL rt hh R k0 s0 Fn b n μ (pc + 3) L st) : zU Γ cc own nL rt hh R k0 s0 Fn b n μ pc L (zi y :: zi x :: st) := by
  obtain ⟨p, l, e, s, m, args, below, meth, c, D, cA, ad⟩ := Γ
  intro X H locs ls hP hS hb hl
  have i := zinj hx hy
  exact lv_icmp_eq X.1 X.2.1 d ht (fun h => kt (by simpa [i] using h) X H locs ls hP hS hb hl) (fun h => kf (by simpa [i] using h) X H locs ls hP hS hb hl)
theorem zU_if_eq {x : Int} {off : Int} (tgt : Nat) (d : decode cc pc = .ok (.ifCond .eq off, 3)) (ht : (pc : Int) + off = (tgt : Int)) (hx : -2147483648 ≤ x ∧ x ≤ 2147483647) (kt : x = 0 → zU Γ cc own nL rt hh R k0 s0 Fn b n μ tgt L st) (kf : ¬ x = 0 → zU Γ cc own nL rt hh R k0 s0 Fn b n μ (pc + 3) L st) : zU Γ cc own nL rt hh R k0 s0 Fn b n μ pc L (zi x :: st) := by
  obtain ⟨p, l, e, s, m, args, below, meth, c, D, cA, ad⟩ := Γ
  intro X H locs ls hP hS hb hl
  have h0 : -2147483648 ≤ (0 : Int) ∧ (0 : Int) ≤ 2147483647 := by omega
  have i := zinj hx h0
  rw [show Int32.ofInt 0 = 0 from rfl] at i
  exact lv_if_eq X.1 X.2.1 d ht (fun h => kt (by simpa [i] using h) X H locs ls hP hS hb hl) (fun h => kf (by simpa [i] using h) X H locs ls hP hS hb hl)
theorem zU_icmp_ne {x y : Int} {off : Int} (tgt : Nat) (d : decode cc pc = .ok (.if_icmp .ne off, 3)) (ht : (pc : Int) + off = (tgt : Int)) (hx : -2147483648 ≤ x ∧ x ≤ 2147483647) (hy : -2147483648 ≤ y ∧ y ≤ 2147483647) (kt : ¬ x = y → zU Γ cc own nL rt hh R k0 s0 Fn b n μ tgt L st) (kf : x = y → zU Γ cc own nL rt hh R k0 s0 Fn b n μ (pc + 3) L st) : zU Γ cc own nL rt hh R k0 s0 Fn b n μ pc L (zi y :: zi x :: st) := by
  obtain ⟨p, l, e, s, m, args, below, meth, c, D, cA, ad⟩ := Γ
  intro X H locs ls hP hS hb hl
  have i := zinj hx hy
  exact lv_icmp_ne X.1 X.2.1 d ht (fun h => kt (by simpa [i] using h) X H locs ls hP hS hb hl) (fun h => kf (by simpa [i] using h) X H locs ls hP hS hb hl)
theorem zU_if_ne {x : Int} {off : Int} (tgt : Nat) (d : decode cc pc = .ok (.ifCond .ne off, 3)) (ht : (pc : Int) + off = (tgt : Int)) (hx : -2147483648 ≤ x ∧ x ≤ 2147483647) (kt : ¬ x = 0 → zU Γ cc own nL rt hh R k0 s0 Fn b n μ tgt L st) (kf : x = 0 → zU Γ cc own nL rt hh R k0 s0 Fn b n μ (pc + 3) L st) : zU Γ cc own nL rt hh R k0 s0 Fn b n μ pc L (zi x :: st) := by
  obtain ⟨p, l, e, s, m, args, below, meth, c, D, cA, ad⟩ := Γ
  intro X H locs ls hP hS hb hl
  have h0 : -2147483648 ≤ (0 : Int) ∧ (0 : Int) ≤ 2147483647 := by omega
  have i := zinj hx h0
  rw [show Int32.ofInt 0 = 0 from rfl] at i
  exact lv_if_ne X.1 X.2.1 d ht (fun h => kt (by simpa [i] using h) X H locs ls hP hS hb hl) (fun h => kf (by simpa [i] using h) X H locs ls hP hS hb hl)
theorem zU_icmp_lt {x y : Int} {off : Int} (tgt : Nat) (d : decode cc pc = .ok (.if_icmp .lt off, 3)) (ht : (pc : Int) + off = (tgt : Int)) (hx : -2147483648 ≤ x ∧ x ≤ 2147483647) (hy : -2147483648 ≤ y ∧ y ≤ 2147483647) (kt : x < y → zU Γ cc own nL rt hh R k0 s0 Fn b n μ tgt L st) (kf : ¬ x < y → zU Γ cc own nL rt hh R k0 s0 Fn b n μ (pc + 3) L st) : zU Γ cc own nL rt hh R k0 s0 Fn b n μ pc L (zi y :: zi x :: st) := by
  obtain ⟨p, l, e, s, m, args, below, meth, c, D, cA, ad⟩ := Γ
  intro X H locs ls hP hS hb hl
  have i := zlt hx hy
  exact lv_icmp_lt X.1 X.2.1 d ht (fun h => kt (by simpa [i] using h) X H locs ls hP hS hb hl) (fun h => kf (by simpa [i] using h) X H locs ls hP hS hb hl)
theorem zU_if_lt {x : Int} {off : Int} (tgt : Nat) (d : decode cc pc = .ok (.ifCond .lt off, 3)) (ht : (pc : Int) + off = (tgt : Int)) (hx : -2147483648 ≤ x ∧ x ≤ 2147483647) (kt : x < 0 → zU Γ cc own nL rt hh R k0 s0 Fn b n μ tgt L st) (kf : ¬ x < 0 → zU Γ cc own nL rt hh R k0 s0 Fn b n μ (pc + 3) L st) : zU Γ cc own nL rt hh R k0 s0 Fn b n μ pc L (zi x :: st) := by
  obtain ⟨p, l, e, s, m, args, below, meth, c, D, cA, ad⟩ := Γ
  intro X H locs ls hP hS hb hl
  have h0 : -2147483648 ≤ (0 : Int) ∧ (0 : Int) ≤ 2147483647 := by omega
  have i := zlt hx h0
  rw [show Int32.ofInt 0 = 0 from rfl] at i
  exact lv_if_lt X.1 X.2.1 d ht (fun h => kt (by simpa [i] using h) X H locs ls hP hS hb hl) (fun h => kf (by simpa [i] using h) X H locs ls hP hS hb hl)
theorem zU_icmp_ge {x y : Int} {off : Int} (tgt : Nat) (d : decode cc pc = .ok (.if_icmp .ge off, 3)) (ht : (pc : Int) + off = (tgt : Int)) (hx : -2147483648 ≤ x ∧ x ≤ 2147483647) (hy : -2147483648 ≤ y ∧ y ≤ 2147483647) (kt : y ≤ x → zU Γ cc own nL rt hh R k0 s0 Fn b n μ tgt L st) (kf : ¬ y ≤ x → zU Γ cc own nL rt hh R k0 s0 Fn b n μ (pc + 3) L st) : zU Γ cc own nL rt hh R k0 s0 Fn b n μ pc L (zi y :: zi x :: st) := by
  obtain ⟨p, l, e, s, m, args, below, meth, c, D, cA, ad⟩ := Γ
  intro X H locs ls hP hS hb hl
  have i := zle hy hx
  exact lv_icmp_ge X.1 X.2.1 d ht (fun h => kt (by simpa [i] using h) X H locs ls hP hS hb hl) (fun h => kf (by simpa [i] using h) X H locs ls hP hS hb hl)
theorem zU_if_ge {x : Int} {off : Int} (tgt : Nat) (d : decode cc pc = .ok (.ifCond .ge off, 3)) (ht : (pc : Int) + off = (tgt : Int)) (hx : -2147483648 ≤ x ∧ x ≤ 2147483647) (kt : 0 ≤ x → zU Γ cc own nL rt hh R k0 s0 Fn b n μ tgt L st) (kf : ¬ 0 ≤ x → zU Γ cc own nL rt hh R k0 s0 Fn b n μ (pc + 3) L st) : zU Γ cc own nL rt hh R k0 s0 Fn b n μ pc L (zi x :: st) := by
  obtain ⟨p, l, e, s, m, args, below, meth, c, D, cA, ad⟩ := Γ
  intro X H locs ls hP hS hb hl
  have h0 : -2147483648 ≤ (0 : Int) ∧ (0 : Int) ≤ 2147483647 := by omega
  have i := zle h0 hx
  rw [show Int32.ofInt 0 = 0 from rfl] at i
  exact lv_if_ge X.1 X.2.1 d ht (fun h => kt (by simpa [i] using h) X H locs ls hP hS hb hl) (fun h => kf (by simpa [i] using h) X H locs ls hP hS hb hl)
theorem zU_icmp_gt {x y : Int} {off : Int} (tgt : Nat) (d : decode cc pc = .ok (.if_icmp .gt off, 3)) (ht : (pc : Int) + off = (tgt : Int)) (hx : -2147483648 ≤ x ∧ x ≤ 2147483647) (hy : -2147483648 ≤ y ∧ y ≤ 2147483647) (kt : y < x → zU Γ cc own nL rt hh R k0 s0 Fn b n μ tgt L st) (kf : ¬ y < x → zU Γ cc own nL rt hh R k0 s0 Fn b n μ (pc + 3) L st) : zU Γ cc own nL rt hh R k0 s0 Fn b n μ pc L (zi y :: zi x :: st) := by
  obtain ⟨p, l, e, s, m, args, below, meth, c, D, cA, ad⟩ := Γ
  intro X H locs ls hP hS hb hl
  have i := zlt hy hx
  exact lv_icmp_gt X.1 X.2.1 d ht (fun h => kt (by simpa [i] using h) X H locs ls hP hS hb hl) (fun h => kf (by simpa [i] using h) X H locs ls hP hS hb hl)
theorem zU_if_gt {x : Int} {off : Int} (tgt : Nat) (d : decode cc pc = .ok (.ifCond .gt off, 3)) (ht : (pc : Int) + off = (tgt : Int)) (hx : -2147483648 ≤ x ∧ x ≤ 2147483647) (kt : 0 < x → zU Γ cc own nL rt hh R k0 s0 Fn b n μ tgt L st) (kf : ¬ 0 < x → zU Γ cc own nL rt hh R k0 s0 Fn b n μ (pc + 3) L st) : zU Γ cc own nL rt hh R k0 s0 Fn b n μ pc L (zi x :: st) := by
  obtain ⟨p, l, e, s, m, args, below, meth, c, D, cA, ad⟩ := Γ
  intro X H locs ls hP hS hb hl
  have h0 : -2147483648 ≤ (0 : Int) ∧ (0 : Int) ≤ 2147483647 := by omega
  have i := zlt h0 hx
  rw [show Int32.ofInt 0 = 0 from rfl] at i
  exact lv_if_gt X.1 X.2.1 d ht (fun h => kt (by simpa [i] using h) X H locs ls hP hS hb hl) (fun h => kf (by simpa [i] using h) X H locs ls hP hS hb hl)
theorem zU_icmp_le {x y : Int} {off : Int} (tgt : Nat) (d : decode cc pc = .ok (.if_icmp .le off, 3)) (ht : (pc : Int) + off = (tgt : Int)) (hx : -2147483648 ≤ x ∧ x ≤ 2147483647) (hy : -2147483648 ≤ y ∧ y ≤ 2147483647) (kt : x ≤ y → zU Γ cc own nL rt hh R k0 s0 Fn b n μ tgt L st) (kf : ¬ x ≤ y → zU Γ cc own nL rt hh R k0 s0 Fn b n μ (pc + 3) L st) : zU Γ cc own nL rt hh R k0 s0 Fn b n μ pc L (zi y :: zi x :: st) := by
  obtain ⟨p, l, e, s, m, args, below, meth, c, D, cA, ad⟩ := Γ
  intro X H locs ls hP hS hb hl
  have i := zle hx hy
  exact lv_icmp_le X.1 X.2.1 d ht (fun h => kt (by simpa [i] using h) X H locs ls hP hS hb hl) (fun h => kf (by simpa [i] using h) X H locs ls hP hS hb hl)
theorem zU_if_le {x : Int} {off : Int} (tgt : Nat) (d : decode cc pc = .ok (.ifCond .le off, 3)) (ht : (pc : Int) + off = (tgt : Int)) (hx : -2147483648 ≤ x ∧ x ≤ 2147483647) (kt : x ≤ 0 → zU Γ cc own nL rt hh R k0 s0 Fn b n μ tgt L st) (kf : ¬ x ≤ 0 → zU Γ cc own nL rt hh R k0 s0 Fn b n μ (pc + 3) L st) : zU Γ cc own nL rt hh R k0 s0 Fn b n μ pc L (zi x :: st) := by
  obtain ⟨p, l, e, s, m, args, below, meth, c, D, cA, ad⟩ := Γ
  intro X H locs ls hP hS hb hl
  have h0 : -2147483648 ≤ (0 : Int) ∧ (0 : Int) ≤ 2147483647 := by omega
  have i := zle hx h0
  rw [show Int32.ofInt 0 = 0 from rfl] at i
  exact lv_if_le X.1 X.2.1 d ht (fun h => kt (by simpa [i] using h) X H locs ls hP hS hb hl) (fun h => kf (by simpa [i] using h) X H locs ls hP hS hb hl)
theorem zU_goto {off : Int} (tgt : Nat) (d : decode cc pc = .ok (.goto off, 3)) (ht : (pc : Int) + off = (tgt : Int)) (kk : zU Γ cc own nL rt hh R k0 s0 Fn b n μ tgt L st) : zU Γ cc own nL rt hh R k0 s0 Fn b n μ pc L st := by
  obtain ⟨p, l, e, s, m, args, below, meth, c, D, cA, ad⟩ := Γ
  intro X H locs ls hP hS hb hl
  exact lv_goto X.1 X.2.1 d ht (kk X H locs ls hP hS hb hl)
end ZR
end
section
/-! fields and arrays -/
def zFd (own : String) (ix ci k : Nat) (C : String) (T : u_T) (N : Nat) : Prop := zcl[ci]? = some (C, T, N) ∧ k < N ∧ zF ci = N ∧ (∀ w ∈ u_ws C T N, w ∈ zWS) ∧
  (Cond.fieldLink own ix (T k).1 (T k).2.1 (T k).2.2.1 ∈ zWS ∨ ∃ host, Cond.fieldLinkNest own ix (T k).1 (T k).2.1 (T k).2.2.1 host ∈ zWS)
def zFp (k : Nat) (T : u_T) (N : Nat) (ty0 : Nat → FieldType) : Prop := (∀ k, k < N → parseFieldDescriptor (T k).2.2.1 = some (ty0 k)) ∧ (∀ a, a < N → ∀ b, b < N → a ≠ b → (T a).2.1 ≠ (T b).2.1) ∧ (T k).2.2.2 = false ∧ k < N
theorem zce_obj {cA : Nat → ClassId} {ad : Nat → Nat} {p ci : Nat} {f : Nat → Int} (hk : zK p = .inr ci) : zce cA ad p f = .inr (ci, (List.range (zF ci)).map (zfv ad p ci f)) := by
  simp [zce, hk]
theorem zfs_get {ad : Nat → Nat} {p ci k : Nat} {f : Nat → Int} (h : k < zF ci) : ((List.range (zF ci)).map (zfv ad p ci f))[k]? = some (zfv ad p ci f k) := by
  rw [List.getElem?_map, List.getElem?_range h]
  rfl
theorem zfs_set {ad : Nat → Nat} {p ci k : Nat} {μ : zM} {x : Int} (hI : zI ci k = false) : ((List.range (zF ci)).map (zfv ad p ci (μ p))).set k (.int (Int32.ofInt x)) = (List.range (zF ci)).map (zfv ad p ci (zup μ p k x p)) := by
  apply List.ext_getElem?
  intro j
  by_cases hj : j < zF ci
  · rw [zfs_get hj]
    by_cases hk : j = k
    · subst hk
      rw [List.getElem?_set_self (by simpa using hj)]
      simp [zfv, hI, zup]
    · rw [List.getElem?_set_ne (Ne.symm hk), zfs_get hj]
      simp [zfv, zup, hk]
  · rw [List.getElem?_eq_none (by simpa using hj), List.getElem?_eq_none (by simpa using hj)]
section ZF
variable {Γ : zG} {cc : ByteArray} {own : String} {nL : Nat} {rt : Option FieldType} {hh : List (Nat × Nat × Nat × Nat)} {R : Room} {k0 s0 fr nb lo : Nat} {Fn : State → Prop} {pb b : Bool} {Q : zO → zM → Prop} {n : Nat} {μ : zM} {pc : Nat} {L : List (Option zV)} {st : List zV}
theorem zU_get0 {p k ci ix : Nat} {C : String} {T : u_T} {N : Nat} {v : zV} (d : decode cc pc = .ok (.getfield ix, 3)) (f : zFd own ix ci k C T N) (hp : p < zN) (hk : zK p = .inr ci) (hv : ∀ ad, zfv ad p ci (μ p) k = zcv ad v)
    (kk : zU Γ cc own nL rt hh R k0 s0 Fn b n μ (pc + 3) L (v :: st)) : zU Γ cc own nL rt hh R k0 s0 Fn b n μ pc L (zp p :: st) := by
  obtain ⟨p', l, e, s, m, args, below, meth, c, D, cA, ad⟩ := Γ
  intro X H locs ls hP hS hb hl
  obtain ⟨hx, hb1, -, -, -, -, hown, hT, hK, -⟩ := id X
  obtain ⟨hc, hkN, hF, hu, hlk⟩ := f
  have hw := zW_get (cA := cA) (ad := ad) (μ := μ) hp
  rw [zce_obj hk] at hw
  have hts : ∀ w ∈ u_ws C T N, w.before args s = true := fun w h => hT.at (hu w h) (by
    obtain ⟨j, -, rfl⟩ := List.mem_map.mp h
    unfold u_lay
    split <;> rfl)
  have hg := zfs_get (ad := ad) (p := p) (f := μ p) (show k < zF ci by rw [hF]; exact hkN)
  rw [hv ad] at hg
  rcases hlk with hlk | ⟨host, hlk⟩
  · exact va_get hx hb1 hts (fun w h => h) hown hK hP p hw hc k hkN (hT.at hlk rfl) (fun x h => h) hg d (kk X H locs ls hP hS hb hl)
  · exact va_getN hx hb1 hts (fun w h => h) hown hK hP p hw hc k hkN (hT.at hlk rfl) (fun x h => h) hg d (kk X H locs ls hP hS hb hl)
/-- a field that holds a number -/
theorem zU_getI {p k ci ix : Nat} {C : String} {T : u_T} {N : Nat} {v : Int} (d : decode cc pc = .ok (.getfield ix, 3)) (f : zFd own ix ci k C T N) (hp : p < zN) (hk : zK p = .inr ci) (hI : zI ci k = false) (hv : μ p k = v)
    (kk : zU Γ cc own nL rt hh R k0 s0 Fn b n μ (pc + 3) L (zi v :: st)) : zU Γ cc own nL rt hh R k0 s0 Fn b n μ pc L (zp p :: st) :=
  zU_get0 d f hp hk (fun ad => by simp [zfv, hI, zcv, hv]) kk
/-- a field that holds a reference -/
theorem zU_getR {p k ci ix : Nat} (q : Nat) {C : String} {T : u_T} {N : Nat} (d : decode cc pc = .ok (.getfield ix, 3)) (f : zFd own ix ci k C T N) (hp : p < zN) (hk : zK p = .inr ci) (hI : zI ci k = true) (hq : zR p k = q)
    (kk : zU Γ cc own nL rt hh R k0 s0 Fn b n μ (pc + 3) L (zp q :: st)) : zU Γ cc own nL rt hh R k0 s0 Fn b n μ pc L (zp p :: st) :=
  zU_get0 d f hp hk (fun ad => by simp [zfv, hI, zcv, hq]) kk
theorem zU_putI {p k ci ix : Nat} {C : String} {T : u_T} {N : Nat} {ty0 : Nat → FieldType} {x : Int} (d : decode cc pc = .ok (.putfield ix, 3)) (f : zFd own ix ci k C T N) (f2 : zFp k T N ty0) (hp : p < zN) (hk : zK p = .inr ci) (hI : zI ci k = false)
    (hx : ty0 k = .int ∨ (ty0 k = .boolean ∧ (x = 0 ∨ x = 1))) (kk : zU Γ cc own nL rt hh R k0 s0 Fn false n (zup μ p k x) (pc + 3) L st) : zU Γ cc own nL rt hh R k0 s0 Fn b n μ pc L (zi x :: zp p :: st) := by
  obtain ⟨p', l, e, s, m, args, below, meth, c, D, cA, ad⟩ := Γ
  intro X H locs ls hP hS hb hl
  obtain ⟨hx1, hb1, -, -, -, -, hown, hT, hK, hJ, -⟩ := id X
  obtain ⟨hc, hkN, hF, hu, hlk⟩ := f
  obtain ⟨g1, g2, g3, -⟩ := f2
  have hw := zW_get (cA := cA) (ad := ad) (μ := μ) hp
  rw [zce_obj hk] at hw
  have hts : ∀ w ∈ u_ws C T N, w.before args s = true := fun w h => hT.at (hu w h) (by
    obtain ⟨j, -, rfl⟩ := List.mem_map.mp h
    unfold u_lay
    split <;> rfl)
  have hn : narrow (ty0 k) (.int (Int32.ofInt x)) = .int (Int32.ofInt x) := by
    rcases hx with h | ⟨h, rfl | rfl⟩ <;> rw [h] <;> rfl
  have hfit : fits (ty0 k) (.int (Int32.ofInt x)) = true := by
    rcases hx with h | ⟨h, rfl | rfl⟩ <;> rw [h] <;> rfl
  have hkl : k < ((List.range (zF ci)).map (zfv ad p ci (μ p))).length := by
    simp [hF, hkN]
  have hset : (zW cA ad μ).set p (ad p, .inr (ci, ((List.range (zF ci)).map (zfv ad p ci (μ p))).set k (.int (Int32.ofInt x)))) = zW cA ad (zup μ p k x) := by
    rw [zfs_set hI, ← zce_obj (cA := cA) hk]
    exact zW_set (fun q hq => zup_ne μ k x hq)
  rcases hlk with hlk | ⟨host, hlk⟩
  · refine va_put (v := .int (Int32.ofInt x)) hx1 hb1 hts (fun w h => h) ty0 g1 g2 hown hK hP (zD_of hJ) hS p hw hc k hkN (hT.at hlk rfl) (fun x h => h) g3 (g1 k hkN) hn hfit hkl d (fun H1 locs1 hP1 _ hS1 => ?_)
    rw [hset] at hP1
    exact kk X H1 locs1 ls hP1 hS1 (fun h => by cases h) hl
  · refine va_putN (v := .int (Int32.ofInt x)) hx1 hb1 hts (fun w h => h) ty0 g1 g2 hown hK hP (zD_of hJ) hS p hw hc k hkN (hT.at hlk rfl) (fun x h => h) g3 (g1 k hkN) hn hfit hkl d (fun H1 locs1 hP1 _ hS1 => ?_)
    rw [hset] at hP1
    exact kk X H1 locs1 ls hP1 hS1 (fun h => by cases h) hl
theorem zupf (f : Nat → Int) (i : Nat) (x : Int) : upd (fun j => Int32.ofInt (f j)) i (Int32.ofInt x) = fun j => Int32.ofInt (if j = i then x else f j) := by
  funext j
  by_cases h : j = i <;> simp [upd, h]
theorem zU_iald {p N : Nat} {i v : Int} (d : decode cc pc = .ok (.iaload, 1)) (hp : p < zN) (hk : zK p = .inl (0, N)) (hN : N ≤ 2147483647) (hi : 0 ≤ i ∧ i < N) (hv : μ p i.toNat = v)
    (kk : zU Γ cc own nL rt hh R k0 s0 Fn b n μ (pc + 1) L (zi v :: st)) : zU Γ cc own nL rt hh R k0 s0 Fn b n μ pc L (zi i :: zp p :: st) := by
  obtain ⟨p', l, e, s, m, args, below, meth, c, D, cA, ad⟩ := Γ
  intro X H locs ls hP hS hb hl
  obtain ⟨hx1, hb1, -, -, -, -, hown, hT, hK, hJ, -⟩ := id X
  have hw := zW_get (cA := cA) (ad := ad) (μ := μ) hp
  simp only [zce, hk] at hw
  obtain ⟨h1, h2⟩ := zin hi hN
  refine va_iald hx1 hb1 hK hP p 0 hw rfl h1 d ?_
  rw [h2, hv]
  exact kk X H locs ls hP hS hb hl
theorem zU_zald {p N : Nat} {i v : Int} (d : decode cc pc = .ok (.baload, 1)) (hp : p < zN) (hk : zK p = .inl (1, N)) (hN : N ≤ 2147483647) (hi : 0 ≤ i ∧ i < N) (hv : μ p i.toNat = v)
    (kk : zU Γ cc own nL rt hh R k0 s0 Fn b n μ (pc + 1) L (zi v :: st)) : zU Γ cc own nL rt hh R k0 s0 Fn b n μ pc L (zi i :: zp p :: st) := by
  obtain ⟨p', l, e, s, m, args, below, meth, c, D, cA, ad⟩ := Γ
  intro X H locs ls hP hS hb hl
  obtain ⟨hx1, hb1, -, -, -, -, hown, hT, hK, hJ, -⟩ := id X
  have hw := zW_get (cA := cA) (ad := ad) (μ := μ) hp
  simp only [zce, hk] at hw
  obtain ⟨h1, h2⟩ := zin hi hN
  refine va_zald hx1 hb1 hK hP p 1 hw rfl h1 d ?_
  rw [h2, hv]
  exact kk X H locs ls hP hS hb hl
theorem zU_lald {p N : Nat} {i v : Int} (d : decode cc pc = .ok (.laload, 1)) (hp : p < zN) (hk : zK p = .inl (2, N)) (hN : N ≤ 2147483647) (hi : 0 ≤ i ∧ i < N) (hv : μ p i.toNat = v)
    (kk : zU Γ cc own nL rt hh R k0 s0 Fn b n μ (pc + 1) L (zl v :: st)) : zU Γ cc own nL rt hh R k0 s0 Fn b n μ pc L (zi i :: zp p :: st) := by
  obtain ⟨p', l, e, s, m, args, below, meth, c, D, cA, ad⟩ := Γ
  intro X H locs ls hP hS hb hl
  obtain ⟨hx1, hb1, -, -, -, -, hown, hT, hK, hJ, -⟩ := id X
  have hw := zW_get (cA := cA) (ad := ad) (μ := μ) hp
  simp only [zce, hk] at hw
  obtain ⟨h1, h2⟩ := zin hi hN
  refine va_lald hx1 hb1 hK hP p 2 hw rfl h1 d ?_
  rw [h2, hv]
  exact kk X H locs ls hP hS hb hl
theorem zU_aald {p N : Nat} {i : Int} (q : Nat) (d : decode cc pc = .ok (.aaload, 1)) (hp : p < zN) (hk : zK p = .inl (3, N)) (hN : N ≤ 2147483647) (hi : 0 ≤ i ∧ i < N) (hq : zR p i.toNat = q)
    (kk : zU Γ cc own nL rt hh R k0 s0 Fn b n μ (pc + 1) L (zp q :: st)) : zU Γ cc own nL rt hh R k0 s0 Fn b n μ pc L (zi i :: zp p :: st) := by
  obtain ⟨p', l, e, s, m, args, below, meth, c, D, cA, ad⟩ := Γ
  intro X H locs ls hP hS hb hl
  obtain ⟨hx1, hb1, -, -, -, -, hown, hT, hK, hJ, -⟩ := id X
  have hw := zW_get (cA := cA) (ad := ad) (μ := μ) hp
  simp only [zce, hk] at hw
  obtain ⟨h1, h2⟩ := zin hi hN
  refine va_aldq hx1 hb1 hK hP p 3 hw rfl h1 d ?_
  rw [h2, hq]
  exact kk X H locs ls hP hS hb hl
theorem zU_iast {p N : Nat} {i x : Int} (d : decode cc pc = .ok (.iastore, 1)) (hp : p < zN) (hk : zK p = .inl (0, N)) (hN : N ≤ 2147483647) (hi : 0 ≤ i ∧ i < N)
    (kk : zU Γ cc own nL rt hh R k0 s0 Fn false n (zup μ p i.toNat x) (pc + 1) L st) : zU Γ cc own nL rt hh R k0 s0 Fn b n μ pc L (zi x :: zi i :: zp p :: st) := by
  obtain ⟨p', l, e, s, m, args, below, meth, c, D, cA, ad⟩ := Γ
  intro X H locs ls hP hS hb hl
  obtain ⟨hx1, hb1, -, -, -, -, hown, hT, hK, hJ, -⟩ := id X
  have hw := zW_get (cA := cA) (ad := ad) (μ := μ) hp
  simp only [zce, hk] at hw
  obtain ⟨h1, h2⟩ := zin hi hN
  refine va_iast (x := Int32.ofInt x) hx1 hb1 hK hP (zD_of hJ) hS p 0 hw rfl h1 d (fun H1 locs1 hP1 _ hS1 => ?_)
  rw [h2, zupf] at hP1
  have hset := zW_set (cA := cA) (ad := ad) (μ := μ) (μ' := zup μ p i.toNat x) (p := p) (fun q hq => zup_ne μ _ x hq)
  simp only [zce, hk, zup_self] at hset
  rw [hset] at hP1
  exact kk X H1 locs1 ls hP1 hS1 (fun h => by cases h) hl
theorem zU_zast {p N : Nat} {i x : Int} (d : decode cc pc = .ok (.bastore, 1)) (hp : p < zN) (hk : zK p = .inl (1, N)) (hN : N ≤ 2147483647) (hi : 0 ≤ i ∧ i < N) (hx : x = 0 ∨ x = 1)
    (kk : zU Γ cc own nL rt hh R k0 s0 Fn false n (zup μ p i.toNat x) (pc + 1) L st) : zU Γ cc own nL rt hh R k0 s0 Fn b n μ pc L (zi x :: zi i :: zp p :: st) := by
  obtain ⟨p', l, e, s, m, args, below, meth, c, D, cA, ad⟩ := Γ
  intro X H locs ls hP hS hb hl
  obtain ⟨hx1, hb1, -, -, -, -, hown, hT, hK, hJ, -⟩ := id X
  have hw := zW_get (cA := cA) (ad := ad) (μ := μ) hp
  simp only [zce, hk] at hw
  obtain ⟨h1, h2⟩ := zin hi hN
  have h3 : vp_nar .boolean (Int32.ofInt x) = Int32.ofInt x := by
    rcases hx with rfl | rfl <;> rfl
  refine va_zast (x := Int32.ofInt x) hx1 hb1 hK hP (zD_of hJ) hS p 1 hw rfl h1 d (fun H1 locs1 hP1 _ hS1 => ?_)
  rw [h2, h3, zupf] at hP1
  have hset := zW_set (cA := cA) (ad := ad) (μ := μ) (μ' := zup μ p i.toNat x) (p := p) (fun q hq => zup_ne μ _ x hq)
  simp only [zce, hk, zup_self] at hset
  rw [hset] at hP1
  exact kk X H1 locs1 ls hP1 hS1 (fun h => by cases h) hl
theorem zU_last {p N : Nat} {i x : Int} (d : decode cc pc = .ok (.lastore, 1)) (hp : p < zN) (hk : zK p = .inl (2, N)) (hN : N ≤ 2147483647) (hi : 0 ≤ i ∧ i < N)
    (kk : zU Γ cc own nL rt hh R k0 s0 Fn false n (zup μ p i.toNat x) (pc + 1) L st) : zU Γ cc own nL rt hh R k0 s0 Fn b n μ pc L (zl x :: zi i :: zp p :: st) := by
  obtain ⟨p', l, e, s, m, args, below, meth, c, D, cA, ad⟩ := Γ
  intro X H locs ls hP hS hb hl
  obtain ⟨hx1, hb1, -, -, -, -, hown, hT, hK, hJ, -⟩ := id X
  have hw := zW_get (cA := cA) (ad := ad) (μ := μ) hp
  simp only [zce, hk] at hw
  obtain ⟨h1, h2⟩ := zin hi hN
  refine va_last (x := Int64.ofInt x) hx1 hb1 hK hP (zD_of hJ) hS p 2 hw rfl h1 d (fun H1 locs1 hP1 _ hS1 => ?_)
  have h4 : vp_updL (fun j => Int64.ofInt (μ p j)) i.toNat (Int64.ofInt x) = fun j => Int64.ofInt (if j = i.toNat then x else μ p j) := by
    funext j
    by_cases h : j = i.toNat <;> simp [vp_updL, h]
  rw [h2, h4] at hP1
  have hset := zW_set (cA := cA) (ad := ad) (μ := μ) (μ' := zup μ p i.toNat x) (p := p) (fun q hq => zup_ne μ _ x hq)
  simp only [zce, hk, zup_self] at hset
  rw [hset] at hP1
  exact kk X H1 locs1 ls hP1 hS1 (fun h => by cases h) hl
/-! ends -/
theorem zEnd_of {p : Program} {l : Launch} {e : Env} {s : State} {m : MethodId} {args : Array Value} {below : List Frame} {meth : Method} {c : Code} {D : va_G} {cA : Nat → ClassId} {ad : Nat → Nat} {t : State}
    (h : MQ below (fun _ s' o t => s'.WarmedH t.vm ∧ va_F (zA ad s'.heap.size) s' t ∧ ∃ po μ', zOut ad s' t po o ∧ va_P D zcl (zW cA ad μ') t.heap ∧ Q po μ') args s nb (6 * nb) (fun q => pb = false ∧ zA ad s.heap.size q) t) :
    zFin (p, l, e, s, m, args, below, meth, c, D, cA, ad) nb pb Q t := by
  obtain ⟨o, h1, h2, h3, Lc, h4, h5⟩ := h
  exact ⟨o, h1, h2, h3, Lc, h4.2.2, h5⟩
theorem zU_ireturn {x : Int} (d : decode cc pc = .ok (.ireturn, 1)) (hr : rt = some .int ∨ (rt = some .boolean ∧ (x = 0 ∨ x = 1))) (hpb : pb = true → b = true) (hn : n ≤ nb) (hq : Q (.inl (some (zi x))) μ) :
    zU Γ cc own nL rt hh (zRm fr nb lo) 0 0 (zFin Γ nb pb Q) b n μ pc L [zi x] := by
  obtain ⟨p', l, e, s, m, args, below, meth, c, D, cA, ad⟩ := Γ
  intro X H locs ls hP hS hb hl
  obtain ⟨hx1, hb1, -, hrt, hlk, -, hown, hT, hK, hJ, -⟩ := id X
  refine W.widen (k := nb) (n := 6 * nb) (by omega) (by omega) ?_
  refine zmono (fun t ht => zEnd_of ht) ?_
  have hfree : ∀ q ∈ locs, pb = false ∧ zA ad s.heap.size q.base := by
    intro q hq'
    refine ⟨?_, hS.2.2 q hq'⟩
    cases hp : pb with
    | false => rfl
    | true =>
      rw [hb (hpb hp)] at hq'
      cases hq'
  have hend : ∀ t : State, t.heap = H → s.WarmedH t.vm → s.WarmedH t.vm ∧ va_F (zA ad s.heap.size) s t ∧ ∃ po μ', zOut ad s t po (.returned (some (.int (Int32.ofInt x)))) ∧ va_P D zcl (zW cA ad μ') t.heap ∧ Q po μ' := fun t ht hW =>
    ⟨hW, hS.F ht, .inl (some (zi x)), μ, rfl, by rw [ht]; exact hP, hq⟩
  rcases hr with h | ⟨h, hx⟩
  · exact W.iret hx1 hb1 (by rw [hrt, h]) hend hfree d hlk
  · exact W.zret (ty := .boolean) hx1 hb1 (by rw [hrt, h]) (by rcases hx with rfl | rfl <;> rfl) hend hfree d hlk
theorem zU_return (d : decode cc pc = .ok (.return_, 1)) (hr : rt = none) (hpb : pb = true → b = true) (hn : n ≤ nb) (hq : Q (.inl none) μ) :
    zU Γ cc own nL rt hh (zRm fr nb lo) 0 0 (zFin Γ nb pb Q) b n μ pc L [] := by
  obtain ⟨p', l, e, s, m, args, below, meth, c, D, cA, ad⟩ := Γ
  intro X H locs ls hP hS hb hl
  obtain ⟨hx1, hb1, -, hrt, hlk, -, hown, hT, hK, hJ, -⟩ := id X
  refine W.widen (k := nb) (n := 6 * nb) (by omega) (by omega) ?_
  refine zmono (fun t ht => zEnd_of ht) ?_
  have hfree : ∀ q ∈ locs, pb = false ∧ zA ad s.heap.size q.base := by
    intro q hq'
    refine ⟨?_, hS.2.2 q hq'⟩
    cases hp : pb with
    | false => rfl
    | true =>
      rw [hb (hpb hp)] at hq'
      cases hq'
  exact W.vret hx1 hb1 (by rw [hrt, hr]) (fun t ht hW => ⟨hW, hS.F ht, .inl none, μ, rfl, by rw [ht]; exact hP, hq⟩) hfree d hlk
end ZF
end
section
/-! calls: the callee may return or throw -/
section ZB
variable {l : Launch} {R : Room} {p : Program} {e : Env} {below : List Frame} {s : State} {sargs : Array Value} {y : MethodName} {len W : Nat} {S : Spec} {P : Array Value → State → Prop} {Q : Array Value → State → Outcome → State → Prop} {maxL k n : Nat} {m : MethodId} {meth : Method} {c : Code} {U : State} {Ls : List Loc} {c0 s0 : Nat} {g : JFrame} {ig : Instr} {mk : MethodId} {a : Array Value} {E : List Loc → Prop}
set_option maxHeartbeats 1000000 in
theorem zback (hM : MetFree l y S P (fun _ _ _ _ _ => True) Q) (hframes : S.room.frames + 1 ≤ R.frames) (hlocals : W + (maxL + 11) + S.room.locals ≤ R.locals)
    (X : Stand p l e R s m sargs below meth c U Ls c0 s0) (hg : g.method = m) (hsize : g.locals.size = c.maxLocals) (hdg : decode c.code g.pc = .ok (ig, len)) (hW : 2 * g.monitorRoom + (g.stack.map fun v => v.category).sum ≤ W) (hn : U.methodNamed? y = some mk)
    (h1 : S.pre.before a U = true) {methY : Method} {cY : Code} (hmY : U.vm.method? mk = some methY) (hcY : methY.code = some cY) (hlY : cY.maxLocals = maxL) (h3 : (Cond.initialized y.cls).before a U = true) (h4 : c0 + S.room.cells ≤ R.cells) (h5 : s0 + S.room.slots ≤ R.slots)
    (hP : P a (U.calling g mk a)) (hQ : ∀ o t, Q a (U.calling g mk a) o t → (U.calling g mk a).WarmedH t.vm ∧ ∃ Lc, (U.calling g mk a).sameButNew ({ t with vm := (U.calling g mk a).vm } : State) Lc k n ∧ E Lc) :
    ∃ (o : Outcome) (t T' : State) (Lc : List Loc), Q a (U.calling g mk a) o t ∧ T'.heap = t.heap ∧ T'.vm = t.vm ∧ E Lc ∧ Stand p l e R s m sargs below meth c T' (Ls ++ Lc) (c0 + k) (s0 + n) ∧
      (∀ v, o = .returned v → Steps p.tables e below (doInvoke e (U.setTop g) [] mk a).1 (T'.setTop { g with pc := g.pc + len, stack := v.toList ++ g.stack })) ∧
      (∀ x, o = .threw x → Steps p.tables e below (doInvoke e (U.setTop g) [] mk a).1 ((T'.setTop g).pushFrame (.throwing x))) := by
  obtain ⟨kY, hkY, -⟩ := className_of_methodNamed hn
  have hinitY : kY.init = .initialized := Cond.initialized_spec (findClass_of_methodNamed hn) hkY h3
  have h : At U g.method c below := by rw [hg]; exact X.here
  have happ : S.appliesLoose y e.platform (U.calling g mk a) = true :=
    Spec.appliesLoose_calling (g := g) h hdg hn hkY hinitY (X.room_calling (g := g) (R' := S.room) hsize hmY hcY hframes (by rw [hlY]; omega) h4 h5) h1
  obtain ⟨mid, hmid⟩ := h.above
  have hfr : (U.setTop g).frames = (.java g :: mid) ++ below := by rw [State.frames_setTop' g h.top, hmid]; rfl
  obtain ⟨o, s₂, hsteps, -, hend, hq⟩ := Steps.callFree hM p X.admits X.cas X.clock (acts := []) hfr happ hP trivial
  rw [State.frames_setTop' g h.top] at hend
  have hq' : Q a (U.calling g mk a) o s₂ := hq
  obtain ⟨hW₂, Lc, ⟨e2, q2, q3, q4, q5, q6⟩, hE⟩ := hQ o s₂ hq'
  have e3 : s₂ = ({ (U.calling g mk a).setFrames s₂.frames with heap := s₂.heap, slotsUsed := s₂.slotsUsed } : State).setVm s₂.vm := by
    have : s₂ = ({ s₂ with vm := (U.calling g mk a).vm } : State).setVm s₂.vm := rfl
    rw [e2] at this
    exact this
  have hW' : U.WarmedH s₂.vm := hW₂
  obtain ⟨g₀, hg0⟩ := Option.isSome_iff_exists.mp h.top
  obtain ⟨r, hr⟩ := State.topJava?_eq_some.mp hg0
  have hr' : (({ U with heap := s₂.heap, slotsUsed := s₂.slotsUsed } : State).setVm s₂.vm).frames = .java g₀ :: r := hr
  have hsame : U.sameButNew ({ U with heap := s₂.heap, slotsUsed := s₂.slotsUsed } : State) Lc k n := by
    refine ⟨?_, q2, q3, q4, q5, q6⟩
    obtain ⟨t, ht, -⟩ := State.frames_cons hr
    show ({ U with heap := s₂.heap, slotsUsed := s₂.slotsUsed } : State) = { U.setFrames U.frames with heap := s₂.heap, slotsUsed := s₂.slotsUsed }
    rw [State.setFrames_self ht]
  refine ⟨o, s₂, ({ U with heap := s₂.heap, slotsUsed := s₂.slotsUsed } : State).setVm s₂.vm, Lc, hq', rfl, rfl, hE, ?_, ?_, ?_⟩
  · subst hg
    exact ⟨X.admits, X.cas, X.clock, X.frames, X.room, X.hears, X.method, X.code, (X.here.setHeapUsed s₂.heap s₂.slotsUsed).setVm hW'.alike, X.tail, State.WarmedH.trans X.warmed hW', X.limits, X.bytes, X.same.trans (hsame.setVm s.vm)⟩
  · intro v hv
    subst hv
    obtain ⟨c₂, i₂, len₂, hc₂, hd₂, hf₂⟩ := hend
    have hcc : c₂ = c := by
      have h1 : s₂.code? g.method = U.code? g.method := by
        rw [State.code?_eq, State.code?_eq, hW'.alike.method?]
      exact Option.some.inj (hc₂.symm.trans (h1.trans h.code))
    subst hcc
    have hlen : len₂ = len := by rw [hdg] at hd₂; cases hd₂; rfl
    subst hlen
    have hs₂ : s₂ = (({ U with heap := s₂.heap, slotsUsed := s₂.slotsUsed } : State).setVm s₂.vm).setTop { g with pc := g.pc + len₂, stack := v.toList ++ g.stack } := by
      refine e3.trans ?_
      rw [hf₂, State.calling_eq h.top, State.setFrames_setFrames, State.setTop_of_frames _ hr', hr]
      rfl
    rw [← hs₂]
    exact hsteps
  · intro x hx
    subst hx
    have hf₂ : s₂.frames = .throwing x :: .java g :: U.frames.tail := hend
    have hs₂ : s₂ = ((({ U with heap := s₂.heap, slotsUsed := s₂.slotsUsed } : State).setVm s₂.vm).setTop g).pushFrame (.throwing x) := by
      refine e3.trans ?_
      rw [hf₂, State.calling_eq h.top, State.setFrames_setFrames, State.pushFrame, State.frames_setTop _ hr', State.setTop_of_frames _ hr', State.setFrames_setFrames, hr]
      rfl
    rw [← hs₂]
    exact hsteps
end ZB
/-- old cells that no road has written are as they were -/
theorem zsame_nil {s t : State} {k n : Nat} (h : s.sameButNew t [] k n) : ∀ q : Nat, q < s.heap.size → t.heap[q]? = s.heap[q]? := by
  intro q hq
  obtain ⟨-, -, -, -, -, h6⟩ := h
  obtain ⟨c, hc⟩ : ∃ c, s.heap[q]? = some c := ⟨_, Array.getElem?_eq_getElem hq⟩
  obtain ⟨c', g1, g2, g3, g4⟩ := h6 q c hc
  have : c'.slots = c.slots := Array.ext_getElem? (fun i => g4 i (by simp))
  rw [g1, hc, g2, this]
section ZT
variable {p : Program} {l : Launch} {e : Env} {s : State} {m : MethodId} {args : Array Value} {below : List Frame} {meth : Method} {c : Code} {D : va_G} {cA : Nat → ClassId} {ad : Nat → Nat}
variable {cc : ByteArray} {own : String} {nL : Nat} {rt : Option FieldType} {hh : List (Nat × Nat × Nat × Nat)} {R : Room} {k0 s0 : Nat} {Fn : State → Prop} {fr nb lo : Nat} {pb b : Bool} {Q : zO → zM → Prop} {n : Nat} {μ : zM} {pc : Nat} {L : List (Option zV)} {st : List zV}
variable {y : MethodName} {cc' : ByteArray} {nL' : Nat} {rt' : Option FieldType} {hh' : List (Nat × Nat × Nat × Nat)} {fr' nb' lo' : Nat} {pb' : Bool} {Q' : zO → zM → Prop} {as : List zV}
/-- the memory behind a callee's end, seen from the caller -/
theorem zS_after {H : Heap} {st0 t : State} {locs Lc : List Loc} {s0 : State} (hS : va_S (zA ad s0.heap.size) s0.heap H locs) (h0 : st0.heap = H) (hF : va_F (zA ad st0.heap.size) st0 t) (hL : ∀ q ∈ Lc, pb' = false ∧ zA ad st0.heap.size q.base) :
    va_S (zA ad s0.heap.size) s0.heap t.heap (locs ++ Lc) := by
  have up : ∀ q, zA ad H.size q → zA ad s0.heap.size q := fun q h => h.elim Or.inl (fun h => Or.inr (Nat.le_trans hS.1 h))
  rw [h0] at hL
  obtain ⟨f1, f2⟩ := hF
  rw [h0] at f1 f2
  refine ⟨Nat.le_trans hS.1 f1, fun q h1 h2 => ?_, fun q hq => ?_⟩
  · rw [f2 q (Nat.lt_of_lt_of_le h1 hS.1) (fun h => h2 (up q h))]
    exact hS.2.1 q h1 h2
  · rcases List.mem_append.mp hq with h | h
    · exact hS.2.2 q h
    · exact up _ (hL q h).2
theorem zW_vm {H : Heap} (hP : va_P D zcl (zW cA ad μ) H) {q : Nat} (hp : q < zN) : ∃ cell, H[ad q]? = some cell ∧ cell.vm = .none := by
  have h := hP q _ (zW_get (cA := cA) (ad := ad) (μ := μ) hp)
  cases hk : zK q with
  | inl x =>
    obtain ⟨t, n⟩ := x
    match t with
    | 0 => simp only [zce, hk] at h; exact ⟨_, h, rfl⟩
    | 1 => simp only [zce, hk] at h; exact ⟨_, h, rfl⟩
    | 2 => simp only [zce, hk] at h; exact ⟨_, h, rfl⟩
    | t + 3 => simp only [zce, hk] at h; exact ⟨_, h, rfl⟩
  | inr ci =>
    simp only [zce, hk] at h
    obtain ⟨r, -, cell, h1, -, h3, -⟩ := h
    exact ⟨cell, h1, h3⟩
theorem zTb.move {U : State} {locs : List Loc} (h : zTb s) (hP0 : va_P D zcl (zW cA ad μ) s.heap) (hW : s.WarmedH U.vm) (hS : va_S (zA ad s.heap.size) s.heap U.heap locs) : zTb U := by
  have hh : ∀ (q : Nat) (cell : Cell), s.heap[q]? = some cell → cell.vm.isStatics = true → U.heap[q]? = some cell := by
    intro q cell hq hs
    have hl : q < s.heap.size := (Array.getElem?_eq_some_iff.mp hq).1
    rw [hS.2.1 q hl (fun hA => ?_)]
    · exact hq
    · rcases hA with ⟨j, hj, rfl⟩ | hA
      · obtain ⟨cell', g1, g2⟩ := zW_vm hP0 hj
        cases hq.symm.trans g1
        rw [g2] at hs
        cases hs
      · omega
  refine ⟨fun w hw => zok_warm (List.mem_filter.mp hw).2 hW (h.1 w hw), fun w hw => ?_, fun i j hi hj hij => (h.2.2 i j hi hj hij).moved hW.alike⟩
  have := h.2.1 w hw
  simp only [zWH, List.mem_cons, List.not_mem_nil, or_false] at hw
  rcases hw with rfl | rfl | rfl | rfl
  · exact zst_ref hW hh this
  · exact zst_ref hW hh this
  · exact zst_lays hW hh this
  · exact zst_lays hW hh this
theorem zhd_on {y : MethodName} {cc : ByteArray} {nL : Nat} {rt : Option FieldType} {hh : List (Nat × Nat × Nat × Nat)} : (zhd y cc nL rt hh).onTables = true := by
  unfold zhd
  split <;> rfl
theorem zhd_named {y : MethodName} {cc : ByteArray} {nL : Nat} {rt : Option FieldType} {hh : List (Nat × Nat × Nat × Nat)} {a : Array Value} {U : State} (h : (zhd y cc nL rt hh).before a U = true) : ∃ mk, U.methodNamed? y = some mk := by
  cases hh with
  | nil => exact Cond.code_named h
  | cons q r =>
    obtain ⟨m9, -, -, hn9, -⟩ := Cond.codeWith_spec h
    exact ⟨m9, hn9⟩
set_option maxHeartbeats 2000000 in
/-- from the callee's entry on -/
theorem ztail (X : zX (p, l, e, s, m, args, below, meth, c, D, cA, ad) cc own nL rt hh) {H : Heap} {locs : List Loc} {ls : Array Slot} (hP : va_P D zcl (zW cA ad μ) H) (hS : va_S (zA ad s.heap.size) s.heap H locs) (hb : b = true → locs = []) (hl : zL ad nL L ls)
    (hC : zC l y cc' nL' rt' hh' fr' nb' lo' pb' as μ Q') (hhd : zhd y cc' nL' rt' hh' ∈ zWS) (hini : Cond.initialized y.cls ∈ zWS) (hR : fr' + 1 ≤ R.frames ∧ 8 + (nL' + 11) + lo' ≤ R.locals ∧ n + k0 + nb' ≤ R.cells ∧ 6 * n + s0 + 6 * nb' ≤ R.slots) (hst : (st.map zcat).sum ≤ 8)
    {T : State} (hT : T.heap = H) {vm₁ : Vm} (X₁ : Stand p l e R s m args below meth c (T.setVm vm₁) locs (n + k0) (6 * n + s0)) {ig : Instr} (hdg : decode cc pc = .ok (ig, 3)) {mk : MethodId} (hn : (T.setVm vm₁).methodNamed? y = some mk)
    (kr : ∀ v μ', Q' (.inl v) μ' → zU (p, l, e, s, m, args, below, meth, c, D, cA, ad) cc own nL rt hh R k0 s0 Fn (b && pb') (n + nb') μ' (pc + 3) L (v.toList ++ st))
    (kt : ∀ k μ', Q' (.inr k) μ' → zThr (p, l, e, s, m, args, below, meth, c, D, cA, ad) cc own nL rt hh R k0 s0 Fn (b && pb') (n + nb') μ' pc L st k) :
    ∃ t, Steps p.tables e below (doInvoke e ((T.setVm vm₁).setTop (F0 m pc ls (st.map (zcv ad)))) [] mk (as.map (zcv ad)).toArray).1 t ∧ Fn t := by
  obtain ⟨hx1, hb1, hml, hrt, hlk, hex, hown, hTb, hK, hJ, htr, hpl, μ0, hP0⟩ := id X
  have hU : zTb (T.setVm vm₁) := hTb.move (U := T.setVm vm₁) (locs := locs) hP0 X₁.warmed (by
    show va_S (zA ad s.heap.size) s.heap T.heap locs
    rw [hT]
    exact hS)
  obtain ⟨methY, cY, hmY, hcY, -, hlY, -⟩ := zhd_spec hn (hU.at (A := #[]) hhd zhd_on)
  have hKU : va_K D zcl (zty cA) (T.setVm vm₁) := va_K.moved X₁.warmed.alike hK
  obtain ⟨o, t, T', Lc, hq, e1, e2, hE, XT, sr, stt⟩ := zback (g := F0 m pc ls (st.map (zcv ad))) (a := (as.map (zcv ad)).toArray) (W := 8) (maxL := nL') (k := nb') (n := 6 * nb') (E := fun Lc => ∀ q ∈ Lc, pb' = false ∧ zA ad (T.setVm vm₁).heap.size q.base)
    (hC htr D cA ad) hR.1 hR.2.1 X₁ rfl (by rw [hml]; exact hl.2.1) (by rw [hb1]; exact hdg) (by
      have : ((st.map (zcv ad)).map fun v => v.category) = st.map zcat := by
        rw [List.map_map]
        apply List.map_congr_left
        intro v _
        exact zcat_cv ad v
      exact lv_room (by rw [this]; exact hst)) hn
    (atoms_intro fun w hw => by
      rw [List.mem_singleton.mp hw]
      exact hU.at hhd zhd_on) hmY hcY hlY (hU.at hini rfl) hR.2.2.1 hR.2.2.2
    ⟨rfl, hU.blind, va_K.moved (u := T.setVm vm₁) (U := (T.setVm vm₁).calling (F0 m pc ls (st.map (zcv ad))) mk (as.map (zcv ad)).toArray) (Vm.Alike.refl _) hKU, hJ, by
      show va_P D zcl (zW cA ad μ) T.heap
      rw [hT]
      exact hP⟩
    (fun o t hq => ⟨hq.1.1, hq.2⟩)
  obtain ⟨⟨hW, hF, po, μ', hout, hP', hQ'⟩, -⟩ := hq
  have hS' : va_S (zA ad s.heap.size) s.heap T'.heap (locs ++ Lc) := by
    rw [e1]
    exact zS_after (st0 := (T.setVm vm₁).calling (F0 m pc ls (st.map (zcv ad))) mk (as.map (zcv ad)).toArray) hS hT hF hE
  have hb' : (b && pb') = true → locs ++ Lc = [] := by
    intro h
    simp only [Bool.and_eq_true] at h
    rw [hb h.1, List.nil_append]
    apply List.eq_nil_iff_forall_not_mem.mpr
    intro q hq
    have := (hE q hq).1
    rw [h.2] at this
    cases this
  have hPT : va_P D zcl (zW cA ad μ') T'.heap := by rw [e1]; exact hP'
  have XT' : Stand p l e R s m args below meth c T' (locs ++ Lc) (n + nb' + k0) (6 * (n + nb') + s0) := by
    have h1 : n + nb' + k0 = n + k0 + nb' := by omega
    have h2 : 6 * (n + nb') + s0 = 6 * n + s0 + 6 * nb' := by omega
    rw [h1, h2]
    exact XT
  rcases po with v | k
  · have ho : o = .returned (v.map (zcv ad)) := hout
    obtain ⟨t2, g1, g2⟩ := kr v μ' hQ' X T'.heap (locs ++ Lc) ls hPT hS' hb' hl T' rfl XT'
    refine ⟨t2, (sr _ ho).trans ?_, g2⟩
    have : (v.map (zcv ad)).toList ++ st.map (zcv ad) = (v.toList ++ st).map (zcv ad) := by
      cases v <;> rfl
    rw [← this] at g1
    exact g1
  · obtain ⟨x, ce, ho, hsz, hce, hcl, hvm⟩ := hout
    obtain ⟨t2, g1, g2⟩ := kt k μ' hQ' X T' (locs ++ Lc) x ce ls hPT hS' hb' hl XT' (by
      have : (T.setVm vm₁).heap.size ≤ x := hsz
      refine Nat.le_trans hS.1 ?_
      rw [← hT]
      exact this) (by rw [e1]; exact hce) (by
      have h9 : (T.setVm vm₁).vm.findClass (zEx k) = some ce.cls := hcl
      rw [← h9]
      exact (X₁.warmed.alike.findClass _ _).symm) hvm
    exact ⟨t2, (stt x ho).trans g1, g2⟩
end ZT
section ZH
variable {Γ : zG} {cc : ByteArray} {own : String} {nL : Nat} {rt : Option FieldType} {fr nb lo : Nat} {pb b : Bool} {Q : zO → zM → Prop} {n : Nat} {μ : zM} {pc : Nat} {L : List (Option zV)} {st : List zV}
/-- thrown on: no handler here -/
theorem zthru {k : Nat} (hpb : pb = true → b = true) (hnb : n ≤ nb) (hq : Q (.inr k) μ) : zThr Γ cc own nL rt [] (zRm fr nb lo) 0 0 (zFin Γ nb pb Q) b n μ pc L st k := by
  obtain ⟨p, l, e, s, m, args, below, meth, c, D, cA, ad⟩ := Γ
  intro X T' locs' x ce ls hP hS hb hl XT hx hce hcl hvm
  obtain ⟨hx1, hb1, hml, hrt, hlk, hex, hown, hTb, hK, hJ, htr, hpl, μ0, hP0⟩ := id X
  have hnone : c.exceptionTable.toList = [] := List.map_eq_nil_iff.mp hex
  obtain ⟨g1, g2, g3, g4, g5⟩ := XT.leaveThrown x (g := F0 m pc ls (st.map (zcv ad))) rfl rfl rfl (by rw [hnone]; intro q h; cases h) hlk
  refine ⟨_, g1, .threw x, g2, g3, ⟨g4, hS.F rfl, .inr k, μ, ⟨x, ce, rfl, hx, hce, hcl, hvm⟩, hP, hq⟩, locs', g5.mono (by omega) (by omega), fun q h => ⟨?_, hS.2.2 q h⟩⟩
  cases hp : pb with
  | false => rfl
  | true =>
    rw [hb (hpb hp)] at h
    cases h
end ZH
/-! calls, as rules -/
def zCv (own : String) (ix : Nat) (y : MethodName) (cc' : ByteArray) (nL' : Nat) (rt' : Option FieldType) (C : String) (na : Nat) : Prop := (Cond.methodLink own ix y ∈ zWS ∨ ∃ host, Cond.methodLinkNest own ix y host ∈ zWS) ∧ Cond.instanceMethod y ∈ zWS ∧ Cond.selects C y y ∈ zWS ∧ Cond.code y cc' nL' rt' ∈ zWS ∧ Cond.initialized y.cls ∈ zWS ∧
  (y.cls ≠ "java/lang/invoke/MethodHandle" ∧ y.cls ≠ "java/lang/invoke/VarHandle") ∧ (parseMethodDescriptor y.desc).map (fun d => d.parameters.length) = some na
def zCs (own : String) (ix : Nat) (y : MethodName) (cc' : ByteArray) (nL' : Nat) (rt' : Option FieldType) (hh' : List (Nat × Nat × Nat × Nat)) (na : Nat) : Prop := (Cond.methodLink own ix y ∈ zWS ∨ ∃ host, Cond.methodLinkNest own ix y host ∈ zWS) ∧ Cond.static y ∈ zWS ∧ zhd y cc' nL' rt' hh' ∈ zWS ∧ Cond.initialized y.cls ∈ zWS ∧
  (y.cls ≠ "java/lang/invoke/MethodHandle" ∧ y.cls ≠ "java/lang/invoke/VarHandle") ∧ (parseMethodDescriptor y.desc).map (fun d => d.parameters.length) = some na
section ZC
variable {Γ : zG} {cc : ByteArray} {own : String} {nL : Nat} {rt : Option FieldType} {hh : List (Nat × Nat × Nat × Nat)} {R : Room} {k0 s0 : Nat} {Fn : State → Prop} {b : Bool} {n : Nat} {μ : zM} {pc : Nat} {L : List (Option zV)} {st stk : List zV}
variable {y : MethodName} {cc' : ByteArray} {nL' : Nat} {rt' : Option FieldType} {hh' : List (Nat × Nat × Nat × Nat)} {fr' nb' lo' : Nat} {pb' : Bool} {Q' : zO → zM → Prop}
set_option maxHeartbeats 2000000 in
theorem zU_callV0 {ix p0 ci : Nat} {C : String} {Tt : u_T} {N : Nat} (as : List zV) (hs : stk = as.reverse ++ zp p0 :: st) (d : decode cc pc = .ok (.invokevirtual ix, 3)) (w : zCv own ix y cc' nL' rt' C as.length) (hp : p0 < zN) (hk : zK p0 = .inr ci) (hc : zcl[ci]? = some (C, Tt, N))
    (hR : fr' + 1 ≤ R.frames ∧ 8 + (nL' + 11) + lo' ≤ R.locals ∧ n + k0 + nb' ≤ R.cells ∧ 6 * n + s0 + 6 * nb' ≤ R.slots) (hst : (st.map zcat).sum ≤ 8) (hC : ∀ l, zC l y cc' nL' rt' [] fr' nb' lo' pb' (zp p0 :: as) μ Q')
    (kr : ∀ v μ', Q' (.inl v) μ' → zU Γ cc own nL rt hh R k0 s0 Fn (b && pb') (n + nb') μ' (pc + 3) L (v.toList ++ st)) (kt : ∀ k μ', Q' (.inr k) μ' → zThr Γ cc own nL rt hh R k0 s0 Fn (b && pb') (n + nb') μ' pc L st k) :
    zU Γ cc own nL rt hh R k0 s0 Fn b n μ pc L stk := by
  obtain ⟨p, l, e, s, m, args, below, meth, c, D, cA, ad⟩ := Γ
  intro X H locs ls hP hS hb hl T hT St
  subst hs
  obtain ⟨hx1, hb1, hml, hrt, hlk, hex, hown, hTb, hK, hJ, htr, hpl, μ0, hP0⟩ := id X
  obtain ⟨w1, w2, w3, w4, w5, hy, w7⟩ := w
  have hw := hP p0 _ (zW_get (cA := cA) (ad := ad) (μ := μ) hp)
  rw [zce_obj hk] at hw
  obtain ⟨r, -, cellB, q1, q2, q3, -⟩ := hw
  have hcl : s.vm.findClass C = some cellB.cls := by rw [q2]; exact (hK.1 ci _ hc).2.1
  obtain ⟨mk, methM, hnamed, hmethM, hstM, habM⟩ := Cond.instanceMethod_spec (hTb.at (A := args) w2 rfl)
  obtain ⟨methM', cM, hmethM', -, -, -, -, -, -, hsigM⟩ := Cond.code_spec hnamed (hTb.at (A := args) w4 rfl)
  cases hmethM.symm.trans hmethM'
  obtain ⟨c2, r2, m2, g1, g2, g3, g4, kP, hkP, hkPi⟩ := Cond.selects_spec (hTb.at (A := args) w3 rfl)
  cases hcl.symm.trans g1
  cases (State.methodFound?_of_named hnamed hy).symm.trans g2
  cases hnamed.symm.trans g3
  have hselP : selectMethod e.platform s.vm cellB.cls mk = .method mk := by rw [Launch.admits_selectMethod St.admits]; exact g4
  have hlen : (as.map (zcv ad)).length = methM.sig.parameters.length := by
    rw [hsigM] at w7
    rw [List.length_map]
    exact (Option.some.inj w7).symm
  have hstk : (F0 m pc ls ((as.reverse ++ zp p0 :: st).map (zcv ad))).stack = (as.map (zcv ad)).reverse ++ .ref (ad p0) :: st.map (zcv ad) := by
    show (as.reverse ++ zp p0 :: st).map (zcv ad) = _
    rw [List.map_append, List.map_reverse]
    rfl
  have hobj : ∀ z, cellB.vm ≠ .statics z := fun z h => by rw [q3] at h; cases h
  obtain ⟨vm₁, X₁, hstep₁⟩ : ∃ vm', Stand p l e R s m args below meth c (T.setVm vm') locs (n + k0) (6 * n + s0) ∧
      ∀ target, (∀ acts, Steps p.tables e below (doInvoke e ((T.setVm vm').setTop { F0 m pc ls ((as.reverse ++ zp p0 :: st).map (zcv ad)) with stack := st.map (zcv ad) }) acts mk (Value.ref (ad p0) :: as.map (zcv ad)).toArray).1 target) → Steps p.tables e below (T.setTop (F0 m pc ls ((as.reverse ++ zp p0 :: st).map (zcv ad)))) target := by
    rcases w1 with w1 | ⟨host, w1⟩
    · exact St.invokevirtual hx1 hown (hTb.at w1 rfl) hnamed hmethM hstM hkP hkPi hy (a := ad p0) (cell := cellB) (by rw [hT]; exact q1) hobj hselP hmethM habM hkP hkPi (g := F0 m pc ls ((as.reverse ++ zp p0 :: st).map (zcv ad))) rfl (argsL := as.map (zcv ad)) (rest := st.map (zcv ad)) hlen hstk (by rw [hb1]; exact d)
    · exact St.invokevirtualNest hx1 hown (hTb.at w1 rfl) hnamed hmethM hstM hkP hkPi hy (a := ad p0) (cell := cellB) (by rw [hT]; exact q1) hobj hselP hmethM habM hkP hkPi (g := F0 m pc ls ((as.reverse ++ zp p0 :: st).map (zcv ad))) rfl (argsL := as.map (zcv ad)) (rest := st.map (zcv ad)) hlen hstk (by rw [hb1]; exact d)
  obtain ⟨t, g5, g6⟩ := ztail (y := y) (mk := mk) (as := zp p0 :: as) X hP hS hb hl (hC l) w4 w5 hR hst hT X₁ d (X₁.named hnamed) kr kt
  exact ⟨t, hstep₁ t (fun acts => by rw [doInvoke_state]; exact g5), g6⟩
set_option maxHeartbeats 2000000 in
theorem zU_callS0 {ix : Nat} (as : List zV) (hs : stk = as.reverse ++ st) (d : decode cc pc = .ok (.invokestatic ix, 3)) (w : zCs own ix y cc' nL' rt' hh' as.length)
    (hR : fr' + 1 ≤ R.frames ∧ 8 + (nL' + 11) + lo' ≤ R.locals ∧ n + k0 + nb' ≤ R.cells ∧ 6 * n + s0 + 6 * nb' ≤ R.slots) (hst : (st.map zcat).sum ≤ 8) (hC : ∀ l, zC l y cc' nL' rt' hh' fr' nb' lo' pb' as μ Q')
    (kr : ∀ v μ', Q' (.inl v) μ' → zU Γ cc own nL rt hh R k0 s0 Fn (b && pb') (n + nb') μ' (pc + 3) L (v.toList ++ st)) (kt : ∀ k μ', Q' (.inr k) μ' → zThr Γ cc own nL rt hh R k0 s0 Fn (b && pb') (n + nb') μ' pc L st k) :
    zU Γ cc own nL rt hh R k0 s0 Fn b n μ pc L stk := by
  obtain ⟨p, l, e, s, m, args, below, meth, c, D, cA, ad⟩ := Γ
  intro X H locs ls hP hS hb hl T hT St
  subst hs
  obtain ⟨hx1, hb1, hml, hrt, hlk, hex, hown, hTb, hK, hJ, htr, hpl, μ0, hP0⟩ := id X
  obtain ⟨w1, w2, w4, w5, hy, w7⟩ := w
  obtain ⟨mk, hnamed⟩ := zhd_named (hTb.at (A := args) w4 zhd_on)
  obtain ⟨methM, cM, hmethM, -, -, -, -, -, -, hsigM⟩ := zhd_spec hnamed (hTb.at (A := args) w4 zhd_on)
  have hstatic : methM.isStatic = true := Cond.static_spec hnamed hmethM (hTb.at (A := args) w2 rfl)
  obtain ⟨kP, hkP, -⟩ := className_of_methodNamed hnamed
  have hinitP : kP.init = .initialized := Cond.initialized_spec (findClass_of_methodNamed hnamed) hkP (hTb.at (A := args) w5 rfl)
  have hlen : (as.map (zcv ad)).length = methM.sig.parameters.length := by
    rw [hsigM] at w7
    rw [List.length_map]
    exact (Option.some.inj w7).symm
  have hstk : (F0 m pc ls ((as.reverse ++ st).map (zcv ad))).stack = (as.map (zcv ad)).reverse ++ st.map (zcv ad) := by
    show (as.reverse ++ st).map (zcv ad) = _
    rw [List.map_append, List.map_reverse]
  obtain ⟨vm₁, X₁, hstep₁⟩ : ∃ vm', Stand p l e R s m args below meth c (T.setVm vm') locs (n + k0) (6 * n + s0) ∧
      ∀ target, (∀ acts, Steps p.tables e below (doInvoke e ((T.setVm vm').setTop { F0 m pc ls ((as.reverse ++ st).map (zcv ad)) with stack := st.map (zcv ad) }) acts mk (as.map (zcv ad)).toArray).1 target) → Steps p.tables e below (T.setTop (F0 m pc ls ((as.reverse ++ st).map (zcv ad)))) target := by
    rcases w1 with w1 | ⟨host, w1⟩
    · exact St.invokestatic hx1 hown (hTb.at w1 rfl) hnamed hmethM hstatic hkP hinitP hy (g := F0 m pc ls ((as.reverse ++ st).map (zcv ad))) rfl (argsL := as.map (zcv ad)) (rest := st.map (zcv ad)) hlen hstk (by rw [hb1]; exact d)
    · exact St.invokestaticNest hx1 hown (hTb.at w1 rfl) hnamed hmethM hstatic hkP hinitP hy (g := F0 m pc ls ((as.reverse ++ st).map (zcv ad))) rfl (argsL := as.map (zcv ad)) (rest := st.map (zcv ad)) hlen hstk (by rw [hb1]; exact d)
  obtain ⟨t, g5, g6⟩ := ztail (y := y) (mk := mk) (as := as) X hP hS hb hl (hC l) w4 w5 hR hst hT X₁ d (X₁.named hnamed) kr kt
  exact ⟨t, hstep₁ t (fun acts => by rw [doInvoke_state]; exact g5), g6⟩
/-! what a contract says: an answer that is a number, or none; with or without a throw -/
def zRi (post : Int → zM → Prop) (o : zO) (μ' : zM) : Prop := ∃ r, o = .inl (some (zi r)) ∧ post r μ'
def zRv (post : zM → Prop) (o : zO) (μ' : zM) : Prop := o = .inl none ∧ post μ'
def zRit (post : Int → zM → Prop) (thr : Nat → zM → Prop) (o : zO) (μ' : zM) : Prop := (∃ r, o = .inl (some (zi r)) ∧ post r μ') ∨ ∃ k, o = .inr k ∧ thr k μ'
def zRvt (post : zM → Prop) (thr : Nat → zM → Prop) (o : zO) (μ' : zM) : Prop := (o = .inl none ∧ post μ') ∨ ∃ k, o = .inr k ∧ thr k μ'
theorem zU_callVi {ix p0 ci : Nat} {C : String} {Tt : u_T} {N : Nat} {post : Int → zM → Prop} (as : List zV) (d : decode cc pc = .ok (.invokevirtual ix, 3)) (w : zCv own ix y cc' nL' rt' C as.length) (hs : stk = as.reverse ++ zp p0 :: st) (hp : p0 < zN) (hk : zK p0 = .inr ci) (hc : zcl[ci]? = some (C, Tt, N)) (hR : fr' + 1 ≤ R.frames ∧ 8 + (nL' + 11) + lo' ≤ R.locals ∧ n + k0 + nb' ≤ R.cells ∧ 6 * n + s0 + 6 * nb' ≤ R.slots) (hst : (st.map zcat).sum ≤ 8) (hC : ∀ l, zC l y cc' nL' rt' [] fr' nb' lo' pb' (zp p0 :: as) μ (zRi post))
    (kr : ∀ r μ', post r μ' → zU Γ cc own nL rt hh R k0 s0 Fn (b && pb') (n + nb') μ' (pc + 3) L (zi r :: st)) : zU Γ cc own nL rt hh R k0 s0 Fn b n μ pc L stk :=
  zU_callV0 as hs d w hp hk hc hR hst hC (fun v μ' h => by obtain ⟨r, h1, h2⟩ := h; cases h1; exact kr r μ' h2) (fun k μ' h => by obtain ⟨r, h1, h2⟩ := h; cases h1)
theorem zU_callVv {ix p0 ci : Nat} {C : String} {Tt : u_T} {N : Nat} {post : zM → Prop} (as : List zV) (d : decode cc pc = .ok (.invokevirtual ix, 3)) (w : zCv own ix y cc' nL' rt' C as.length) (hs : stk = as.reverse ++ zp p0 :: st) (hp : p0 < zN) (hk : zK p0 = .inr ci) (hc : zcl[ci]? = some (C, Tt, N)) (hR : fr' + 1 ≤ R.frames ∧ 8 + (nL' + 11) + lo' ≤ R.locals ∧ n + k0 + nb' ≤ R.cells ∧ 6 * n + s0 + 6 * nb' ≤ R.slots) (hst : (st.map zcat).sum ≤ 8) (hC : ∀ l, zC l y cc' nL' rt' [] fr' nb' lo' pb' (zp p0 :: as) μ (zRv post))
    (kr : ∀ μ', post μ' → zU Γ cc own nL rt hh R k0 s0 Fn (b && pb') (n + nb') μ' (pc + 3) L st) : zU Γ cc own nL rt hh R k0 s0 Fn b n μ pc L stk :=
  zU_callV0 as hs d w hp hk hc hR hst hC (fun v μ' h => by obtain ⟨h1, h2⟩ := h; cases h1; exact kr μ' h2) (fun k μ' h => by obtain ⟨h1, h2⟩ := h; cases h1)
theorem zU_callVit {ix p0 ci : Nat} {C : String} {Tt : u_T} {N : Nat} {post : Int → zM → Prop} {thr : Nat → zM → Prop} (as : List zV) (d : decode cc pc = .ok (.invokevirtual ix, 3)) (w : zCv own ix y cc' nL' rt' C as.length) (hs : stk = as.reverse ++ zp p0 :: st) (hp : p0 < zN) (hk : zK p0 = .inr ci) (hc : zcl[ci]? = some (C, Tt, N)) (hR : fr' + 1 ≤ R.frames ∧ 8 + (nL' + 11) + lo' ≤ R.locals ∧ n + k0 + nb' ≤ R.cells ∧ 6 * n + s0 + 6 * nb' ≤ R.slots) (hst : (st.map zcat).sum ≤ 8) (hC : ∀ l, zC l y cc' nL' rt' [] fr' nb' lo' pb' (zp p0 :: as) μ (zRit post thr))
    (kr : ∀ r μ', post r μ' → zU Γ cc own nL rt hh R k0 s0 Fn (b && pb') (n + nb') μ' (pc + 3) L (zi r :: st)) (kt : ∀ k μ', thr k μ' → zThr Γ cc own nL rt hh R k0 s0 Fn (b && pb') (n + nb') μ' pc L st k) : zU Γ cc own nL rt hh R k0 s0 Fn b n μ pc L stk :=
  zU_callV0 as hs d w hp hk hc hR hst hC (fun v μ' h => by
    rcases h with ⟨r, h1, h2⟩ | ⟨k, h1, h2⟩
    · cases h1; exact kr r μ' h2
    · cases h1) (fun k μ' h => by
    rcases h with ⟨r, h1, h2⟩ | ⟨k, h1, h2⟩
    · cases h1
    · cases h1; exact kt _ μ' h2)
theorem zU_callVvt {ix p0 ci : Nat} {C : String} {Tt : u_T} {N : Nat} {post : zM → Prop} {thr : Nat → zM → Prop} (as : List zV) (d : decode cc pc = .ok (.invokevirtual ix, 3)) (w : zCv own ix y cc' nL' rt' C as.length) (hs : stk = as.reverse ++ zp p0 :: st) (hp : p0 < zN) (hk : zK p0 = .inr ci) (hc : zcl[ci]? = some (C, Tt, N)) (hR : fr' + 1 ≤ R.frames ∧ 8 + (nL' + 11) + lo' ≤ R.locals ∧ n + k0 + nb' ≤ R.cells ∧ 6 * n + s0 + 6 * nb' ≤ R.slots) (hst : (st.map zcat).sum ≤ 8) (hC : ∀ l, zC l y cc' nL' rt' [] fr' nb' lo' pb' (zp p0 :: as) μ (zRvt post thr))
    (kr : ∀ μ', post μ' → zU Γ cc own nL rt hh R k0 s0 Fn (b && pb') (n + nb') μ' (pc + 3) L st) (kt : ∀ k μ', thr k μ' → zThr Γ cc own nL rt hh R k0 s0 Fn (b && pb') (n + nb') μ' pc L st k) : zU Γ cc own nL rt hh R k0 s0 Fn b n μ pc L stk :=
  zU_callV0 as hs d w hp hk hc hR hst hC (fun v μ' h => by
    rcases h with ⟨h1, h2⟩ | ⟨k, h1, h2⟩
    · cases h1; exact kr μ' h2
    · cases h1) (fun k μ' h => by
    rcases h with ⟨h1, h2⟩ | ⟨k, h1, h2⟩
    · cases h1
    · cases h1; exact kt _ μ' h2)
theorem zU_callSi {ix : Nat} {post : Int → zM → Prop} (as : List zV) (d : decode cc pc = .ok (.invokestatic ix, 3)) (w : zCs own ix y cc' nL' rt' hh' as.length) (hs : stk = as.reverse ++ st) (hR : fr' + 1 ≤ R.frames ∧ 8 + (nL' + 11) + lo' ≤ R.locals ∧ n + k0 + nb' ≤ R.cells ∧ 6 * n + s0 + 6 * nb' ≤ R.slots) (hst : (st.map zcat).sum ≤ 8) (hC : ∀ l, zC l y cc' nL' rt' hh' fr' nb' lo' pb' as μ (zRi post))
    (kr : ∀ r μ', post r μ' → zU Γ cc own nL rt hh R k0 s0 Fn (b && pb') (n + nb') μ' (pc + 3) L (zi r :: st)) : zU Γ cc own nL rt hh R k0 s0 Fn b n μ pc L stk :=
  zU_callS0 as hs d w hR hst hC (fun v μ' h => by obtain ⟨r, h1, h2⟩ := h; cases h1; exact kr r μ' h2) (fun k μ' h => by obtain ⟨r, h1, h2⟩ := h; cases h1)
theorem zU_callSv {ix : Nat} {post : zM → Prop} (as : List zV) (d : decode cc pc = .ok (.invokestatic ix, 3)) (w : zCs own ix y cc' nL' rt' hh' as.length) (hs : stk = as.reverse ++ st) (hR : fr' + 1 ≤ R.frames ∧ 8 + (nL' + 11) + lo' ≤ R.locals ∧ n + k0 + nb' ≤ R.cells ∧ 6 * n + s0 + 6 * nb' ≤ R.slots) (hst : (st.map zcat).sum ≤ 8) (hC : ∀ l, zC l y cc' nL' rt' hh' fr' nb' lo' pb' as μ (zRv post))
    (kr : ∀ μ', post μ' → zU Γ cc own nL rt hh R k0 s0 Fn (b && pb') (n + nb') μ' (pc + 3) L st) : zU Γ cc own nL rt hh R k0 s0 Fn b n μ pc L stk :=
  zU_callS0 as hs d w hR hst hC (fun v μ' h => by obtain ⟨h1, h2⟩ := h; cases h1; exact kr μ' h2) (fun k μ' h => by obtain ⟨h1, h2⟩ := h; cases h1)
theorem zU_callSit {ix : Nat} {post : Int → zM → Prop} {thr : Nat → zM → Prop} (as : List zV) (d : decode cc pc = .ok (.invokestatic ix, 3)) (w : zCs own ix y cc' nL' rt' hh' as.length) (hs : stk = as.reverse ++ st) (hR : fr' + 1 ≤ R.frames ∧ 8 + (nL' + 11) + lo' ≤ R.locals ∧ n + k0 + nb' ≤ R.cells ∧ 6 * n + s0 + 6 * nb' ≤ R.slots) (hst : (st.map zcat).sum ≤ 8) (hC : ∀ l, zC l y cc' nL' rt' hh' fr' nb' lo' pb' as μ (zRit post thr))
    (kr : ∀ r μ', post r μ' → zU Γ cc own nL rt hh R k0 s0 Fn (b && pb') (n + nb') μ' (pc + 3) L (zi r :: st)) (kt : ∀ k μ', thr k μ' → zThr Γ cc own nL rt hh R k0 s0 Fn (b && pb') (n + nb') μ' pc L st k) : zU Γ cc own nL rt hh R k0 s0 Fn b n μ pc L stk :=
  zU_callS0 as hs d w hR hst hC (fun v μ' h => by
    rcases h with ⟨r, h1, h2⟩ | ⟨k, h1, h2⟩
    · cases h1; exact kr r μ' h2
    · cases h1) (fun k μ' h => by
    rcases h with ⟨r, h1, h2⟩ | ⟨k, h1, h2⟩
    · cases h1
    · cases h1; exact kt _ μ' h2)
theorem zU_callSvt {ix : Nat} {post : zM → Prop} {thr : Nat → zM → Prop} (as : List zV) (d : decode cc pc = .ok (.invokestatic ix, 3)) (w : zCs own ix y cc' nL' rt' hh' as.length) (hs : stk = as.reverse ++ st) (hR : fr' + 1 ≤ R.frames ∧ 8 + (nL' + 11) + lo' ≤ R.locals ∧ n + k0 + nb' ≤ R.cells ∧ 6 * n + s0 + 6 * nb' ≤ R.slots) (hst : (st.map zcat).sum ≤ 8) (hC : ∀ l, zC l y cc' nL' rt' hh' fr' nb' lo' pb' as μ (zRvt post thr))
    (kr : ∀ μ', post μ' → zU Γ cc own nL rt hh R k0 s0 Fn (b && pb') (n + nb') μ' (pc + 3) L st) (kt : ∀ k μ', thr k μ' → zThr Γ cc own nL rt hh R k0 s0 Fn (b && pb') (n + nb') μ' pc L st k) : zU Γ cc own nL rt hh R k0 s0 Fn b n μ pc L stk :=
  zU_callS0 as hs d w hR hst hC (fun v μ' h => by
    rcases h with ⟨h1, h2⟩ | ⟨k, h1, h2⟩
    · cases h1; exact kr μ' h2
    · cases h1) (fun k μ' h => by
    rcases h with ⟨h1, h2⟩ | ⟨k, h1, h2⟩
    · cases h1
    · cases h1; exact kt _ μ' h2)
end ZC
end
section
/-! throws of a new exception, and catches -/
def zup2 : List String := ["java/lang/RuntimeException", "java/lang/Exception"]
def zTw (own : String) (ix ic k : Nat) : Prop := Cond.classLink own ix (zEx k) ∈ zWS ∧ Cond.instantiable (zEx k) 6 ∈ zWS ∧ Cond.initialized (zEx k) ∈ zWS ∧ (∀ a ∈ Bundle.ownAtoms0 own ic (zEx k) zup2, a ∈ zWS ∨ a ∈ zWH) ∧ Bundle.fit (zEx k) = true
theorem zWH_any {s : State} (h : zTb s) {A : Array Value} {w : Cond} (hw : w ∈ zWH) : w.before A s = true := by
  have := h.2.1 w hw
  simp only [zWH, List.mem_cons, List.not_mem_nil, or_false] at hw
  rcases hw with rfl | rfl | rfl | rfl <;> exact this
section ZQ
variable {Γ : zG} {cc : ByteArray} {own : String} {nL : Nat} {rt : Option FieldType} {fr nb lo : Nat} {pb b : Bool} {Q : zO → zM → Prop} {n : Nat} {μ : zM} {pc : Nat} {L : List (Option zV)} {st : List zV}
set_option maxHeartbeats 2000000 in
theorem zU_throw {ix ic : Nat} (k : Nat) (d0 : decode cc pc = .ok (.new ix, 3)) (d1 : decode cc (pc + 3) = .ok (.dup, 1)) (d2 : decode cc (pc + 4) = .ok (.invokespecial ic, 3)) (d3 : decode cc (pc + 7) = .ok (.athrow, 1)) (w : zTw own ix ic k)
    (hR : n + 1 ≤ nb ∧ 5 < fr ∧ (st.map zcat).sum + 81 ≤ lo) (hq : Q (.inr k) μ) : zU Γ cc own nL rt [] (zRm fr nb lo) 0 0 (zFin Γ nb pb Q) true n μ pc L st := by
  obtain ⟨p, l, e, s, m, args, below, meth, c, D, cA, ad⟩ := Γ
  intro X H locs ls hP hS hb hl T hT St
  obtain ⟨hx1, hb1, hml, hrt, hlk, hex, hown, hTb, hK, hJ, htr, hpl, μ0, hP0⟩ := id X
  obtain ⟨w1, w2, w3, w4, w5⟩ := w
  have hlocs : locs = [] := hb rfl
  subst hlocs
  obtain ⟨vm₁, cX, kX, hfX, hkX, -, -, X₁, st1⟩ := St.newCold hx1 (own := own) (C := zEx k) (index := ix) (n := 6) hown (hTb.at w1 rfl) (hTb.at w2 rfl) (hTb.at w3 rfl)
    (g := F0 m pc ls (st.map (zcv ad))) rfl (by rw [hb1]; exact d0) (by show n + 0 + 1 ≤ nb; omega) (by show 6 * n + 0 + 6 ≤ 6 * nb; omega)
  generalize hT2 : (T.setVm vm₁).pushCell { cls := cX, slots := kX.instanceTypes.map defaultValue, vm := .none } = T2 at X₁ st1
  have hcellA : T2.heap[T.heap.size]? = some (freshCell cX kX) := by rw [← hT2]; exact State.heap_pushCell_size _ _
  have hsz : s.heap.size ≤ T.heap.size := by rw [hT]; exact hS.1
  have hnone : c.exceptionTable.toList = [] := List.map_eq_nil_iff.mp hex
  have hcat : ((st.map (zcv ad)).map fun v => v.category) = st.map zcat := by
    rw [List.map_map]
    apply List.map_congr_left
    intro v _
    exact zcat_cv ad v
  obtain ⟨U, hsteps, hrun, hend, hW, hsame, ce, hce, K⟩ := X₁.ctorThrow0 hx1 hpl (own := own) (cls := zEx k) (names := zup2) (ic := ic) hown w5 (by decide +kernel)
    (fun y hy => (w4 y hy).elim (fun h => hTb.at h (zok_on (List.mem_filter.mp h).2)) (fun h => zWH_any hTb h)) (fun y hy => by cases hy) hfX hkX hcellA hsz
    (g := F0 m (pc + 4) ls (.ref T.heap.size :: .ref T.heap.size :: st.map (zcv ad))) rfl (by rw [hml]; exact hl.2.1) rfl rfl (rest := st.map (zcv ad)) rfl
    (by rw [hb1]; exact d2) (by rw [hb1]; exact d3) (by rw [hnone]; intro q h; cases h) (by show zup2.length + 3 < fr; have := hR.2.1; simp [zup2]; omega)
    (by
      have h1 : 2 * (F0 m (pc + 4) ls (.ref T.heap.size :: .ref T.heap.size :: st.map (zcv ad))).monitorRoom = 0 := rfl
      rw [h1]
      simp only [List.map_cons, List.sum_cons, hcat]
      have := hR.2.2
      show 0 + (1 + (st.map zcat).sum) + (13 * (2 + 1) + 41) ≤ lo
      omega) hlk
  have hU := zsame_nil hsame
  have hTs := zsame_nil St.same
  refine ⟨U, st1 _ ?_, .threw T.heap.size, hrun, hend, ⟨hW, ⟨hsame.2.1, fun q h _ => hU q h⟩, .inr k, μ, ⟨_, ce, rfl, hsz, hce, K.cls, K.vm⟩, ?_, hq⟩, [], hsame.mono (by omega) (by omega), fun q h => by cases h⟩
  · show Steps p.tables e below (T2.setTop (F0 m (pc + 3) ls (.ref T.heap.size :: st.map (zcv ad)))) _
    jvm_step X₁.here [X₁.here.top, hx1, hb1, d1, Value.category]
    exact hsteps
  · refine hP.kept (fun j q hj => ?_)
    obtain ⟨hj1, rfl⟩ := zW_inv hj
    have hlt : ad j < s.heap.size := (hP0 j _ (zW_get hj1)).lt
    rw [← hT]
    exact (hU _ hlt).trans (hTs _ hlt).symm
end ZQ
section ZK
variable {E : CtlPost} {e : Env} {d : Bool} {acts : List Action} {s : State} {f : JFrame} {a : Addr} {Q : Handler → Pre}
theorem zgo_cold {x : ExceptionTableEntry} {t : List ExceptionTableEntry} {c : ClassId} {cell : Cell} {vm' : Vm} (hx : covers x f.pc = true) (h0 : x.catchType ≠ 0)
    (hg : (Jvm.resolveClass f.method.cls x.catchType).Gives e.toSetting s.vm (.ok c) vm') (hsz : vm'.classes.size ≤ s.vm.classes.size) (hcell : s.heap[a]? = some cell) (hobj : ∀ k, cell.vm ≠ .statics k)
    (hk : ∃ k, vm'.classes[cell.cls]? = some k) (hc : ∃ k, vm'.classes[c]? = some k) :
    wp (findHandler.go f a (x :: t)) Q E e d acts s ↔
      if vm'.assignable cell.cls c = true then Q (.found x.handlerPc) d acts (s.setVm vm') else wp (findHandler.go f a t) Q E e d acts (s.setVm vm') := by
  simp only [covers] at hx
  obtain ⟨ha, ht⟩ := hg.op (op := VmOp.resolveClass f.method.cls x.catchType) rfl
  cases hfit : vm'.assignable cell.cls c <;>
    simp [findHandler.go, hx, h0, ha, ht, hsz, hcell, hobj, hk, hc, hfit, VmOp.dirties, VmOp.acts]
def zFinds (e : Env) (s : State) (f : JFrame) (a : Addr) (pc : Nat) (vm' : Vm) : Prop := ∀ (Q : Handler → Pre) (E : CtlPost) (d : Bool) (acts : List Action), wp (findHandler f a) Q E e d acts s ↔ Q (.found pc) d acts (s.setVm vm')
theorem zstep_catch {r : List Frame} {pc : Nat} {vm' : Vm} (hfind : zFinds e s f a pc vm') : (stepThrowing e s a (.java f :: r)).Is ((s.setVm vm').setFrames (.java { f with pc := pc, stack := [.ref a] } :: r)) [] := by
  simp only [stepThrowing, searchFrame, vmDo]
  generalize hr : Sem.go _ e false [] s = res
  obtain ⟨as, rfl, ha⟩ := Sem.eq_ok_of hr (a := Handler.found pc) (s' := s.setVm vm') (acts' := []) (by simp [hfind _ _ _ _])
  exact ⟨rfl, ha⟩
theorem zcaught {tb : Tables} {g : JFrame} {c : Code} {below : List Frame} {target : State} (h : At s g.method c below) {pc : Nat} {vm' : Vm} (hfind : zFinds e ((s.setTop g).pushFrame (.throwing a)) g a pc vm')
    (hrest : Steps tb e below ((s.setVm vm').setTop { g with pc := pc, stack := [.ref a] }) target) : Steps tb e below ((s.setTop g).pushFrame (.throwing a)) target := by
  obtain ⟨hgo, hw⟩ := h.throwing a
  refine Steps.head hgo hw ?_
  rw [stepThread_throwing (frames_entered h.top _), (zstep_catch (s := (s.setTop g).pushFrame (.throwing a)) hfind).1]
  obtain ⟨g₀, hg⟩ := Option.isSome_iff_exists.mp h.top
  obtain ⟨r, hr⟩ := State.topJava?_eq_some.mp hg
  have hr' : (s.setVm vm').frames = .java g₀ :: r := hr
  rw [State.setTop_of_frames _ hr'] at hrest
  have e1 : (((s.setTop g).pushFrame (.throwing a)).setVm vm').setFrames (.java { g with pc := pc, stack := [.ref a] } :: s.frames.tail) = (s.setVm vm').setFrames (.java { g with pc := pc, stack := [.ref a] } :: r) := by
    rw [State.pushFrame, State.setTop_of_frames _ hr, State.setFrames_setFrames, hr]
    have e2 : ∀ (F : List Frame), (s.setFrames F).setVm vm' = (s.setVm vm').setFrames F := fun _ => rfl
    rw [e2, State.setFrames_setFrames]
    rfl
  rw [e1]
  exact hrest
end ZK
section ZL
variable {Γ : zG} {cc : ByteArray} {own : String} {nL : Nat} {rt : Option FieldType} {R : Room} {k0 s0 : Nat} {Fn : State → Prop} {b : Bool} {n : Nat} {μ : zM} {pc : Nat} {L : List (Option zV)} {st : List zV}
/-- the search through a table of handlers whose ranges all hold pc: the first row whose class is the exception's -/
theorem zsearch {p : Program} {l : Launch} {e : Env} {s : State} {m : MethodId} {args : Array Value} {below : List Frame} {meth : Method} {c : Code} {f : JFrame} {x : Nat} {ce : Cell} {k : Nat} (hf : f.method = m) (hpl : e.platform.magicAccessors = ({} : Platform).magicAccessors)
    (hTb : zTb s) (hown : s.vm.findClass own = some m.cls) (hcl : s.vm.findClass (zEx k) = some ce.cls) (hvm : ce.vm = .none) (hk3 : k < 3) (hself : Cond.castable (zEx k) (zEx k) ∈ zWS) :
    ∀ (tb : List ExceptionTableEntry) (js : List Nat), js.length = tb.length → (∀ (i : Nat) (x : ExceptionTableEntry) (j : Nat), tb[i]? = some x → js[i]? = some j → covers x f.pc = true ∧ x.catchType ≠ 0 ∧ j < 3 ∧ Cond.classLink own x.catchType (zEx j) ∈ zWS) →
      ∀ (i : Nat) (h : ExceptionTableEntry), js.findIdx? (fun j => j == k) = some i → tb[i]? = some h →
      ∀ U : State, s.WarmedH U.vm → U.heap[x]? = some ce → ∃ vm', s.WarmedH vm' ∧ ∀ (Q : Handler → Pre) (E : CtlPost) (d : Bool) (acts : List Action), wp (findHandler.go f x tb) Q E e d acts U ↔ Q (.found h.handlerPc) d acts (U.setVm vm') := by
  intro tb
  induction tb with
  | nil =>
    intro js hlen _ i h _ hi
    simp at hi
  | cons y t ih =>
    intro js hlen hall i h hfi hi U hW hx
    cases js with
    | nil => simp at hlen
    | cons j js =>
      obtain ⟨q1, q2, q3, q4⟩ := hall 0 y j rfl rfl
      obtain ⟨cj, hfj, hlinks⟩ := Cond.classLink_spec (s := s) (args := #[]) hown (hTb.at q4 rfl) e.platform hpl
      obtain ⟨hg₁, hwarm₁, hready₁⟩ := State.classEntry (e := e) hW hlinks
      have hsz : (U.vm.noted m.cls y.catchType (.cls cj)).classes.size ≤ U.vm.classes.size := Nat.le_of_eq (Vm.size_noted _ _ _ _)
      generalize U.vm.noted m.cls y.catchType (.cls cj) = vm₁ at hg₁ hwarm₁ hready₁ hsz
      have hobj : ∀ z, ce.vm ≠ .statics z := fun z h => by rw [hvm] at h; cases h
      have hk1 : ∃ z, vm₁.classes[ce.cls]? = some z := Vm.classAt_of_findClass (by rw [hwarm₁.alike.findClass]; exact hcl)
      have hc1 : ∃ z, vm₁.classes[cj]? = some z := Vm.classAt_of_findClass (by rw [hwarm₁.alike.findClass]; exact hfj)
      have key : ∀ (Q : Handler → Pre) (E : CtlPost) (d : Bool) (acts : List Action), wp (findHandler.go f x (y :: t)) Q E e d acts U ↔
          if vm₁.assignable ce.cls cj = true then Q (.found y.handlerPc) d acts (U.setVm vm₁) else wp (findHandler.go f x t) Q E e d acts (U.setVm vm₁) := fun Q E d acts =>
        zgo_cold (vm' := vm₁) q1 q2 (by rw [hf]; exact hg₁) hsz hx hobj hk1 hc1
      by_cases hjk : j = k
      · subst hjk
        have hi0 : i = 0 := by
          rw [List.findIdx?_cons] at hfi
          simp at hfi
          exact hfi.symm
        subst hi0
        cases hi
        refine ⟨vm₁, hwarm₁, fun Q E d acts => ?_⟩
        obtain ⟨a1, a2, g1, g2, g3⟩ := Cond.castable_spec (hTb.at (A := #[]) hself rfl)
        cases g1.symm.trans hcl
        cases g2.symm.trans hcl
        cases hfj.symm.trans hcl
        rw [key, if_pos (by rw [hwarm₁.alike.assignable]; exact g3)]
      · rw [List.findIdx?_cons] at hfi
        simp only [beq_iff_eq, hjk, if_false] at hfi
        cases hr : js.findIdx? (fun j => j == k) with
        | none => rw [hr] at hfi; simp at hfi
        | some i' =>
          rw [hr] at hfi
          have hi' : i = i' + 1 := by simpa using hfi.symm
          subst hi'
          obtain ⟨vm', hw', hrest⟩ := ih js (by simpa using hlen) (fun i2 x2 j2 h1 h2 => hall (i2 + 1) x2 j2 (by simpa using h1) (by simpa using h2)) i' h hr (by simpa using hi) (U.setVm vm₁) hwarm₁ hx
          refine ⟨vm', hw', fun Q E d acts => ?_⟩
          obtain ⟨a1, a2, g1, g2, g3⟩ := hTb.2.2 k j hk3 q3 (fun h => hjk h.symm)
          cases g1.symm.trans hcl
          cases g2.symm.trans hfj
          rw [key, if_neg (by rw [hwarm₁.alike.assignable, g3]; decide), hrest]
          rfl
set_option maxHeartbeats 1000000 in
/-- caught here: by the row i of the table, whose handler begins with astore_iL -/
theorem zcatch {hh : List (Nat × Nat × Nat × Nat)} {k i hpc : Nat} {iL : Fin 4} (js : List Nat) (hk3 : k < 3) (hself : Cond.castable (zEx k) (zEx k) ∈ zWS) (hlen : js.length = hh.length)
    (hall : ∀ (i : Nat) (q : Nat × Nat × Nat × Nat) (j : Nat), hh[i]? = some q → js[i]? = some j → (q.1 ≤ pc ∧ pc < q.2.1) ∧ q.2.2.2 ≠ 0 ∧ j < 3 ∧ Cond.classLink own q.2.2.2 (zEx j) ∈ zWS)
    (hi : js.findIdx? (fun j => j == k) = some i) (hq : (hh[i]?).map (fun q => q.2.2.1) = some hpc) (d : decode cc hpc = .ok (.astore_n iL, 1)) (hiL : (iL : Nat) < nL)
    (kk : zU Γ cc own nL rt hh R k0 s0 Fn b n μ (hpc + 1) (L.set (iL : Nat) none) []) : zThr Γ cc own nL rt hh R k0 s0 Fn b n μ pc L st k := by
  obtain ⟨p, l, e, s, m, args, below, meth, c, D, cA, ad⟩ := Γ
  intro X T' locs' x ce ls hP hS hb hl XT hx hce hcl hvm
  obtain ⟨hx1, hb1, hml, hrt, hlk, hex, hown, hTb, hK, hJ, htr, hpl, μ0, hP0⟩ := id X
  have hmag : e.platform.magicAccessors = ({} : Platform).magicAccessors := by rw [XT.admits.platform]
  have hrow : ∀ (i : Nat) (y : ExceptionTableEntry), c.exceptionTable.toList[i]? = some y → hh[i]? = some (y.startPc, y.endPc, y.handlerPc, y.catchType) := by
    intro i y hy
    rw [← hex, List.getElem?_map, hy]
    rfl
  have hlt : i < c.exceptionTable.toList.length := by
    have h1 : i < js.length := (List.findIdx?_eq_some_iff_getElem.mp hi).1
    have h2 : hh.length = c.exceptionTable.toList.length := by rw [← hex, List.length_map]
    omega
  obtain ⟨y, hy⟩ : ∃ y, c.exceptionTable.toList[i]? = some y := ⟨_, List.getElem?_eq_getElem hlt⟩
  have hyp : y.handlerPc = hpc := by
    rw [hrow i y hy] at hq
    simpa using hq
  have hvmE : ((T'.setTop (F0 m pc ls (st.map (zcv ad)))).pushFrame (.throwing x)).vm = T'.vm := Stand.throwing_vm _ _ _
  have hheapE : ((T'.setTop (F0 m pc ls (st.map (zcv ad)))).pushFrame (.throwing x)).heap = T'.heap := Stand.throwing_heap _ _ _
  obtain ⟨vm', hw', hgo⟩ := zsearch (p := p) (l := l) (args := args) (below := below) (meth := meth) (c := c) (f := F0 m pc ls (st.map (zcv ad))) (x := x) (ce := ce) (k := k) rfl hmag hTb hown hcl hvm hk3 hself c.exceptionTable.toList js
    (by rw [hlen, ← hex, List.length_map])
    (fun i2 x2 j2 h1 h2 => by
      obtain ⟨⟨q1, q2⟩, q3, q4, q5⟩ := hall i2 _ j2 (hrow i2 x2 h1) h2
      exact ⟨by simp only [covers, Bool.and_eq_true, decide_eq_true_eq]; exact ⟨q1, q2⟩, q3, q4, q5⟩)
    i y hi hy ((T'.setTop (F0 m pc ls (st.map (zcv ad)))).pushFrame (.throwing x)) (by rw [hvmE]; exact XT.warmed) (by rw [hheapE]; exact hce)
  have hfind : zFinds e ((T'.setTop (F0 m pc ls (st.map (zcv ad)))).pushFrame (.throwing x)) (F0 m pc ls (st.map (zcv ad))) x hpc vm' := by
    intro Q E d acts
    rw [W.findHandler_eq (meth := meth) (code := c) (by rw [hvmE]; exact XT.method') XT.code, hgo, hyp]
  have w : W p l e R s m args below meth c T'.heap locs' (n + k0) (6 * n + s0) Fn (F0 m hpc ls [.ref x]) :=
    lv_astore_n hx1 hb1 d rfl (zL_has hl) hiL rfl (fun ls' h' => kk X T'.heap locs' ls' hP hS hb (zL_drop hl h'))
  obtain ⟨t, a1, b1⟩ := w (T'.setVm vm') rfl (XT.noted hw')
  exact ⟨t, zcaught XT.here hfind a1, b1⟩
end ZL
end
section
theorem zmem (i : Nat) {w : Cond} (h : tables_1[i]? = some w) (hz : zok w = true) : w ∈ zWS := List.mem_filter.mpr ⟨List.mem_append_right _ (List.mem_of_getElem? h), hz⟩
theorem zmemS (i : Nat) {w : Cond} (h : (k2_sels lw_privs)[i]? = some w) (hz : zok w = true) : w ∈ zWS := List.mem_filter.mpr ⟨List.mem_append_left _ (List.mem_of_getElem? h), hz⟩
theorem zmems (is : List Nat) {ws : List Cond} (h : is.map (fun i => tables_1[i]?) = ws.map some) (hz : ws.all zok = true) : ∀ w ∈ ws, w ∈ zWS := by
  intro w hw
  obtain ⟨j, hj⟩ := List.getElem?_of_mem hw
  have h1 : (is.map (fun i => tables_1[i]?))[j]? = some (some w) := by rw [h, List.getElem?_map, hj]; rfl
  rw [List.getElem?_map] at h1
  cases hi : is[j]? with
  | none => rw [hi] at h1; cases h1
  | some i =>
    rw [hi] at h1
    exact zmem i (Option.some.inj h1) (List.all_eq_true.mp hz w hw)
theorem uw_A : ∀ w ∈ u_ws n_A T_A 4, w ∈ zWS := zmems [75, 77, 79, 81] (by decide +kernel) (by decide +kernel)
theorem uw_M : ∀ w ∈ u_ws n_M T_M 8, w ∈ zWS := zmems [50, 52, 54, 56, 58, 60, 62, 64] (by decide +kernel) (by decide +kernel)
theorem uw_G : ∀ w ∈ u_ws n_G T_G 11, w ∈ zWS := zmems [110, 112, 114, 116, 118, 120, 122, 124, 126, 128, 130] (by decide +kernel) (by decide +kernel)
theorem uw_P : ∀ w ∈ u_ws n_P T_P 3, w ∈ zWS := zmems [165, 167, 169] (by decide +kernel) (by decide +kernel)
theorem uw_S : ∀ w ∈ u_ws n_S T_S 9, w ∈ zWS := zmems [200, 202, 204, 206, 208, 210, 212, 214, 216] (by decide +kernel) (by decide +kernel)
theorem uw_Y : ∀ w ∈ u_ws n_Y T_Y 5, w ∈ zWS := zmems [145, 147, 149, 151, 153] (by decide +kernel) (by decide +kernel)
theorem uw_C : ∀ w ∈ u_ws n_C T_C 8, w ∈ zWS := zmems [227, 229, 231, 233, 235, 237, 239, 241] (by decide +kernel) (by decide +kernel)
theorem uw_R : ∀ w ∈ u_ws n_R T_R 32, w ∈ zWS := zmems [744, 746, 748, 750, 752, 754, 756, 758, 760, 762, 764, 766, 768, 770, 772, 774, 776, 778, 780, 782, 784, 786, 788, 790, 792, 794, 796, 798, 800, 802, 804, 806] (by decide +kernel) (by decide +kernel)
theorem p_A_count : zFp 1 T_A 4 t_A := ⟨t_A_ok, nm_A, rfl, by decide⟩
theorem p_A_declaredEvents : zFp 2 T_A 4 t_A := ⟨t_A_ok, nm_A, rfl, by decide⟩
theorem p_A_controllableEvents : zFp 3 T_A 4 t_A := ⟨t_A_ok, nm_A, rfl, by decide⟩
theorem p_M_states : zFp 0 T_M 8 t_M := ⟨t_M_ok, nm_M, rfl, by decide⟩
theorem p_M_kind : zFp 1 T_M 8 t_M := ⟨t_M_ok, nm_M, rfl, by decide⟩
theorem p_M_initial : zFp 2 T_M 8 t_M := ⟨t_M_ok, nm_M, rfl, by decide⟩
theorem p_M_markedStates : zFp 3 T_M 8 t_M := ⟨t_M_ok, nm_M, rfl, by decide⟩
theorem p_M_forbiddenStates : zFp 4 T_M 8 t_M := ⟨t_M_ok, nm_M, rfl, by decide⟩
theorem p_M_events : zFp 5 T_M 8 t_M := ⟨t_M_ok, nm_M, rfl, by decide⟩
theorem p_G_count : zFp 0 T_G 11 t_G := ⟨t_G_ok, nm_G, rfl, by decide⟩
theorem p_S_count : zFp 0 T_S 9 t_S := ⟨t_S_ok, nm_S, rfl, by decide⟩
theorem p_S_reached : zFp 1 T_S 9 t_S := ⟨t_S_ok, nm_S, rfl, by decide⟩
theorem p_S_good : zFp 2 T_S 9 t_S := ⟨t_S_ok, nm_S, rfl, by decide⟩
theorem p_S_wordLength : zFp 3 T_S 9 t_S := ⟨t_S_ok, nm_S, rfl, by decide⟩
theorem p_C_resultStands : zFp 6 T_C 8 t_C := ⟨t_C_ok, nm_C, rfl, by decide⟩
theorem p_C_place : zFp 7 T_C 8 t_C := ⟨t_C_ok, nm_C, rfl, by decide⟩
theorem p_R_thrown : zFp 0 T_R 32 t_R := ⟨t_R_ok, nm_R, rfl, by decide⟩
theorem p_R_count : zFp 1 T_R 32 t_R := ⟨t_R_ok, nm_R, rfl, by decide⟩
theorem p_R_result : zFp 17 T_R 32 t_R := ⟨t_R_ok, nm_R, rfl, by decide⟩
theorem p_R_kept : zFp 18 T_R 32 t_R := ⟨t_R_ok, nm_R, rfl, by decide⟩
theorem p_R_found : zFp 25 T_R 32 t_R := ⟨t_R_ok, nm_R, rfl, by decide⟩
theorem p_R_length : zFp 26 T_R 32 t_R := ⟨t_R_ok, nm_R, rfl, by decide⟩
theorem p_R_here : zFp 28 T_R 32 t_R := ⟨t_R_ok, nm_R, rfl, by decide⟩
theorem p_R_pairs : zFp 29 T_R 32 t_R := ⟨t_R_ok, nm_R, rfl, by decide⟩
theorem f_A_11 : zFd n_A 11 0 0 n_A T_A 4 := ⟨rfl, by decide, rfl, uw_A, Or.inl (zmem 68 (by decide +kernel) rfl)⟩
theorem f_A_18 : zFd n_A 18 0 1 n_A T_A 4 := ⟨rfl, by decide, rfl, uw_A, Or.inl (zmem 70 (by decide +kernel) rfl)⟩
theorem f_A_26 : zFd n_A 26 0 2 n_A T_A 4 := ⟨rfl, by decide, rfl, uw_A, Or.inl (zmem 72 (by decide +kernel) rfl)⟩
theorem f_A_29 : zFd n_A 29 0 3 n_A T_A 4 := ⟨rfl, by decide, rfl, uw_A, Or.inl (zmem 73 (by decide +kernel) rfl)⟩
theorem f_A_40 : zFd n_A 40 1 0 n_M T_M 8 := ⟨rfl, by decide, rfl, uw_M, Or.inr ⟨n_C, zmem 37 (by decide +kernel) rfl⟩⟩
theorem f_A_43 : zFd n_A 43 1 1 n_M T_M 8 := ⟨rfl, by decide, rfl, uw_M, Or.inr ⟨n_C, zmem 39 (by decide +kernel) rfl⟩⟩
theorem f_A_46 : zFd n_A 46 1 2 n_M T_M 8 := ⟨rfl, by decide, rfl, uw_M, Or.inr ⟨n_C, zmem 41 (by decide +kernel) rfl⟩⟩
theorem f_A_57 : zFd n_A 57 1 3 n_M T_M 8 := ⟨rfl, by decide, rfl, uw_M, Or.inr ⟨n_C, zmem 43 (by decide +kernel) rfl⟩⟩
theorem f_A_64 : zFd n_A 64 1 4 n_M T_M 8 := ⟨rfl, by decide, rfl, uw_M, Or.inr ⟨n_C, zmem 45 (by decide +kernel) rfl⟩⟩
theorem f_A_67 : zFd n_A 67 1 5 n_M T_M 8 := ⟨rfl, by decide, rfl, uw_M, Or.inr ⟨n_C, zmem 47 (by decide +kernel) rfl⟩⟩
theorem f_C_12 : zFd n_C 12 6 0 n_C T_C 8 := ⟨rfl, by decide, rfl, uw_C, Or.inl (zmem 219 (by decide +kernel) rfl)⟩
theorem f_C_24 : zFd n_C 24 6 1 n_C T_C 8 := ⟨rfl, by decide, rfl, uw_C, Or.inl (zmem 220 (by decide +kernel) rfl)⟩
theorem f_C_33 : zFd n_C 33 6 2 n_C T_C 8 := ⟨rfl, by decide, rfl, uw_C, Or.inl (zmem 221 (by decide +kernel) rfl)⟩
theorem f_C_40 : zFd n_C 40 6 3 n_C T_C 8 := ⟨rfl, by decide, rfl, uw_C, Or.inl (zmem 222 (by decide +kernel) rfl)⟩
theorem f_C_44 : zFd n_C 44 6 4 n_C T_C 8 := ⟨rfl, by decide, rfl, uw_C, Or.inl (zmem 223 (by decide +kernel) rfl)⟩
theorem f_C_47 : zFd n_C 47 6 5 n_C T_C 8 := ⟨rfl, by decide, rfl, uw_C, Or.inl (zmem 224 (by decide +kernel) rfl)⟩
theorem f_C_53 : zFd n_C 53 0 1 n_A T_A 4 := ⟨rfl, by decide, rfl, uw_A, Or.inr ⟨n_C, zmem 71 (by decide +kernel) rfl⟩⟩
theorem f_C_60 : zFd n_C 60 6 6 n_C T_C 8 := ⟨rfl, by decide, rfl, uw_C, Or.inl (zmem 225 (by decide +kernel) rfl)⟩
theorem f_C_87 : zFd n_C 87 0 0 n_A T_A 4 := ⟨rfl, by decide, rfl, uw_A, Or.inr ⟨n_C, zmem 69 (by decide +kernel) rfl⟩⟩
theorem f_C_118 : zFd n_C 118 6 7 n_C T_C 8 := ⟨rfl, by decide, rfl, uw_C, Or.inl (zmem 226 (by decide +kernel) rfl)⟩
theorem f_C_121 : zFd n_C 121 4 0 n_S T_S 9 := ⟨rfl, by decide, rfl, uw_S, Or.inr ⟨n_C, zmem 178 (by decide +kernel) rfl⟩⟩
theorem f_C_141 : zFd n_C 141 4 5 n_S T_S 9 := ⟨rfl, by decide, rfl, uw_S, Or.inr ⟨n_C, zmem 191 (by decide +kernel) rfl⟩⟩
theorem f_C_151 : zFd n_C 151 4 1 n_S T_S 9 := ⟨rfl, by decide, rfl, uw_S, Or.inr ⟨n_C, zmem 181 (by decide +kernel) rfl⟩⟩
theorem f_C_154 : zFd n_C 154 4 2 n_S T_S 9 := ⟨rfl, by decide, rfl, uw_S, Or.inr ⟨n_C, zmem 183 (by decide +kernel) rfl⟩⟩
theorem f_C_157 : zFd n_C 157 4 3 n_S T_S 9 := ⟨rfl, by decide, rfl, uw_S, Or.inr ⟨n_C, zmem 185 (by decide +kernel) rfl⟩⟩
theorem f_C_163 : zFd n_C 163 4 4 n_S T_S 9 := ⟨rfl, by decide, rfl, uw_S, Or.inr ⟨n_C, zmem 188 (by decide +kernel) rfl⟩⟩
theorem f_C_180 : zFd n_C 180 4 7 n_S T_S 9 := ⟨rfl, by decide, rfl, uw_S, Or.inr ⟨n_C, zmem 197 (by decide +kernel) rfl⟩⟩
theorem f_G_9 : zFd n_G 9 2 1 n_G T_G 11 := ⟨rfl, by decide, rfl, uw_G, Or.inl (zmem 93 (by decide +kernel) rfl)⟩
theorem f_G_15 : zFd n_G 15 2 2 n_G T_G 11 := ⟨rfl, by decide, rfl, uw_G, Or.inl (zmem 94 (by decide +kernel) rfl)⟩
theorem f_G_18 : zFd n_G 18 2 3 n_G T_G 11 := ⟨rfl, by decide, rfl, uw_G, Or.inl (zmem 96 (by decide +kernel) rfl)⟩
theorem f_G_22 : zFd n_G 22 2 4 n_G T_G 11 := ⟨rfl, by decide, rfl, uw_G, Or.inl (zmem 99 (by decide +kernel) rfl)⟩
theorem f_G_25 : zFd n_G 25 2 5 n_G T_G 11 := ⟨rfl, by decide, rfl, uw_G, Or.inl (zmem 102 (by decide +kernel) rfl)⟩
theorem f_G_28 : zFd n_G 28 2 6 n_G T_G 11 := ⟨rfl, by decide, rfl, uw_G, Or.inl (zmem 104 (by decide +kernel) rfl)⟩
theorem f_G_31 : zFd n_G 31 2 7 n_G T_G 11 := ⟨rfl, by decide, rfl, uw_G, Or.inl (zmem 106 (by decide +kernel) rfl)⟩
theorem f_G_34 : zFd n_G 34 2 8 n_G T_G 11 := ⟨rfl, by decide, rfl, uw_G, Or.inl (zmem 107 (by decide +kernel) rfl)⟩
theorem f_G_37 : zFd n_G 37 2 9 n_G T_G 11 := ⟨rfl, by decide, rfl, uw_G, Or.inl (zmem 108 (by decide +kernel) rfl)⟩
theorem f_G_40 : zFd n_G 40 2 10 n_G T_G 11 := ⟨rfl, by decide, rfl, uw_G, Or.inl (zmem 109 (by decide +kernel) rfl)⟩
theorem f_G_43 : zFd n_G 43 2 0 n_G T_G 11 := ⟨rfl, by decide, rfl, uw_G, Or.inl (zmem 90 (by decide +kernel) rfl)⟩
theorem f_M_9 : zFd n_M 9 1 6 n_M T_M 8 := ⟨rfl, by decide, rfl, uw_M, Or.inl (zmem 48 (by decide +kernel) rfl)⟩
theorem f_M_15 : zFd n_M 15 1 7 n_M T_M 8 := ⟨rfl, by decide, rfl, uw_M, Or.inl (zmem 49 (by decide +kernel) rfl)⟩
theorem f_M_18 : zFd n_M 18 1 0 n_M T_M 8 := ⟨rfl, by decide, rfl, uw_M, Or.inl (zmem 36 (by decide +kernel) rfl)⟩
theorem f_M_22 : zFd n_M 22 1 1 n_M T_M 8 := ⟨rfl, by decide, rfl, uw_M, Or.inl (zmem 38 (by decide +kernel) rfl)⟩
theorem f_M_25 : zFd n_M 25 1 2 n_M T_M 8 := ⟨rfl, by decide, rfl, uw_M, Or.inl (zmem 40 (by decide +kernel) rfl)⟩
theorem f_M_28 : zFd n_M 28 1 3 n_M T_M 8 := ⟨rfl, by decide, rfl, uw_M, Or.inl (zmem 42 (by decide +kernel) rfl)⟩
theorem f_M_31 : zFd n_M 31 1 4 n_M T_M 8 := ⟨rfl, by decide, rfl, uw_M, Or.inl (zmem 44 (by decide +kernel) rfl)⟩
theorem f_M_34 : zFd n_M 34 1 5 n_M T_M 8 := ⟨rfl, by decide, rfl, uw_M, Or.inl (zmem 46 (by decide +kernel) rfl)⟩
theorem f_P_9 : zFd n_P 9 3 1 n_P T_P 3 := ⟨rfl, by decide, rfl, uw_P, Or.inl (zmem 163 (by decide +kernel) rfl)⟩
theorem f_P_15 : zFd n_P 15 3 2 n_P T_P 3 := ⟨rfl, by decide, rfl, uw_P, Or.inl (zmem 164 (by decide +kernel) rfl)⟩
theorem f_P_18 : zFd n_P 18 3 0 n_P T_P 3 := ⟨rfl, by decide, rfl, uw_P, Or.inl (zmem 162 (by decide +kernel) rfl)⟩
theorem f_P_32 : zFd n_P 32 2 0 n_G T_G 11 := ⟨rfl, by decide, rfl, uw_G, Or.inr ⟨n_C, zmem 92 (by decide +kernel) rfl⟩⟩
theorem f_P_40 : zFd n_P 40 4 5 n_S T_S 9 := ⟨rfl, by decide, rfl, uw_S, Or.inr ⟨n_C, zmem 190 (by decide +kernel) rfl⟩⟩
theorem f_P_45 : zFd n_P 45 2 3 n_G T_G 11 := ⟨rfl, by decide, rfl, uw_G, Or.inr ⟨n_C, zmem 97 (by decide +kernel) rfl⟩⟩
theorem f_P_53 : zFd n_P 53 2 4 n_G T_G 11 := ⟨rfl, by decide, rfl, uw_G, Or.inr ⟨n_C, zmem 101 (by decide +kernel) rfl⟩⟩
theorem f_R_7 : zFd n_R 7 7 2 n_R T_R 32 := ⟨rfl, by decide, rfl, uw_R, Or.inl (zmem 714 (by decide +kernel) rfl)⟩
theorem f_R_13 : zFd n_R 13 7 3 n_R T_R 32 := ⟨rfl, by decide, rfl, uw_R, Or.inl (zmem 715 (by decide +kernel) rfl)⟩
theorem f_R_17 : zFd n_R 17 7 4 n_R T_R 32 := ⟨rfl, by decide, rfl, uw_R, Or.inl (zmem 716 (by decide +kernel) rfl)⟩
theorem f_R_20 : zFd n_R 20 7 5 n_R T_R 32 := ⟨rfl, by decide, rfl, uw_R, Or.inl (zmem 717 (by decide +kernel) rfl)⟩
theorem f_R_23 : zFd n_R 23 7 6 n_R T_R 32 := ⟨rfl, by decide, rfl, uw_R, Or.inl (zmem 718 (by decide +kernel) rfl)⟩
theorem f_R_26 : zFd n_R 26 7 7 n_R T_R 32 := ⟨rfl, by decide, rfl, uw_R, Or.inl (zmem 719 (by decide +kernel) rfl)⟩
theorem f_R_29 : zFd n_R 29 7 8 n_R T_R 32 := ⟨rfl, by decide, rfl, uw_R, Or.inl (zmem 720 (by decide +kernel) rfl)⟩
theorem f_R_32 : zFd n_R 32 7 9 n_R T_R 32 := ⟨rfl, by decide, rfl, uw_R, Or.inl (zmem 721 (by decide +kernel) rfl)⟩
theorem f_R_35 : zFd n_R 35 7 10 n_R T_R 32 := ⟨rfl, by decide, rfl, uw_R, Or.inl (zmem 722 (by decide +kernel) rfl)⟩
theorem f_R_38 : zFd n_R 38 7 11 n_R T_R 32 := ⟨rfl, by decide, rfl, uw_R, Or.inl (zmem 723 (by decide +kernel) rfl)⟩
theorem f_R_41 : zFd n_R 41 7 12 n_R T_R 32 := ⟨rfl, by decide, rfl, uw_R, Or.inl (zmem 724 (by decide +kernel) rfl)⟩
theorem f_R_44 : zFd n_R 44 7 13 n_R T_R 32 := ⟨rfl, by decide, rfl, uw_R, Or.inl (zmem 725 (by decide +kernel) rfl)⟩
theorem f_R_47 : zFd n_R 47 7 14 n_R T_R 32 := ⟨rfl, by decide, rfl, uw_R, Or.inl (zmem 726 (by decide +kernel) rfl)⟩
theorem f_R_50 : zFd n_R 50 7 15 n_R T_R 32 := ⟨rfl, by decide, rfl, uw_R, Or.inl (zmem 727 (by decide +kernel) rfl)⟩
theorem f_R_53 : zFd n_R 53 7 16 n_R T_R 32 := ⟨rfl, by decide, rfl, uw_R, Or.inl (zmem 728 (by decide +kernel) rfl)⟩
theorem f_R_56 : zFd n_R 56 7 19 n_R T_R 32 := ⟨rfl, by decide, rfl, uw_R, Or.inl (zmem 731 (by decide +kernel) rfl)⟩
theorem f_R_59 : zFd n_R 59 7 20 n_R T_R 32 := ⟨rfl, by decide, rfl, uw_R, Or.inl (zmem 732 (by decide +kernel) rfl)⟩
theorem f_R_62 : zFd n_R 62 7 21 n_R T_R 32 := ⟨rfl, by decide, rfl, uw_R, Or.inl (zmem 733 (by decide +kernel) rfl)⟩
theorem f_R_65 : zFd n_R 65 7 22 n_R T_R 32 := ⟨rfl, by decide, rfl, uw_R, Or.inl (zmem 734 (by decide +kernel) rfl)⟩
theorem f_R_68 : zFd n_R 68 7 23 n_R T_R 32 := ⟨rfl, by decide, rfl, uw_R, Or.inl (zmem 735 (by decide +kernel) rfl)⟩
theorem f_R_71 : zFd n_R 71 7 24 n_R T_R 32 := ⟨rfl, by decide, rfl, uw_R, Or.inl (zmem 736 (by decide +kernel) rfl)⟩
theorem f_R_74 : zFd n_R 74 7 27 n_R T_R 32 := ⟨rfl, by decide, rfl, uw_R, Or.inl (zmem 739 (by decide +kernel) rfl)⟩
theorem f_R_77 : zFd n_R 77 7 30 n_R T_R 32 := ⟨rfl, by decide, rfl, uw_R, Or.inl (zmem 742 (by decide +kernel) rfl)⟩
theorem f_R_80 : zFd n_R 80 7 31 n_R T_R 32 := ⟨rfl, by decide, rfl, uw_R, Or.inl (zmem 743 (by decide +kernel) rfl)⟩
theorem f_R_83 : zFd n_R 83 7 0 n_R T_R 32 := ⟨rfl, by decide, rfl, uw_R, Or.inl (zmem 712 (by decide +kernel) rfl)⟩
theorem f_R_87 : zFd n_R 87 7 17 n_R T_R 32 := ⟨rfl, by decide, rfl, uw_R, Or.inl (zmem 729 (by decide +kernel) rfl)⟩
theorem f_R_91 : zFd n_R 91 7 18 n_R T_R 32 := ⟨rfl, by decide, rfl, uw_R, Or.inl (zmem 730 (by decide +kernel) rfl)⟩
theorem f_R_98 : zFd n_R 98 7 1 n_R T_R 32 := ⟨rfl, by decide, rfl, uw_R, Or.inl (zmem 713 (by decide +kernel) rfl)⟩
theorem f_R_132 : zFd n_R 132 7 25 n_R T_R 32 := ⟨rfl, by decide, rfl, uw_R, Or.inl (zmem 737 (by decide +kernel) rfl)⟩
theorem f_R_151 : zFd n_R 151 7 28 n_R T_R 32 := ⟨rfl, by decide, rfl, uw_R, Or.inl (zmem 740 (by decide +kernel) rfl)⟩
theorem f_R_158 : zFd n_R 158 7 26 n_R T_R 32 := ⟨rfl, by decide, rfl, uw_R, Or.inl (zmem 738 (by decide +kernel) rfl)⟩
theorem f_R_164 : zFd n_R 164 7 29 n_R T_R 32 := ⟨rfl, by decide, rfl, uw_R, Or.inl (zmem 741 (by decide +kernel) rfl)⟩
theorem f_S_9 : zFd n_S 9 4 4 n_S T_S 9 := ⟨rfl, by decide, rfl, uw_S, Or.inl (zmem 186 (by decide +kernel) rfl)⟩
theorem f_S_15 : zFd n_S 15 4 5 n_S T_S 9 := ⟨rfl, by decide, rfl, uw_S, Or.inl (zmem 189 (by decide +kernel) rfl)⟩
theorem f_S_18 : zFd n_S 18 4 6 n_S T_S 9 := ⟨rfl, by decide, rfl, uw_S, Or.inl (zmem 193 (by decide +kernel) rfl)⟩
theorem f_S_21 : zFd n_S 21 4 7 n_S T_S 9 := ⟨rfl, by decide, rfl, uw_S, Or.inl (zmem 195 (by decide +kernel) rfl)⟩
theorem f_S_24 : zFd n_S 24 4 8 n_S T_S 9 := ⟨rfl, by decide, rfl, uw_S, Or.inl (zmem 198 (by decide +kernel) rfl)⟩
theorem f_Y_9 : zFd n_Y 9 5 2 n_Y T_Y 5 := ⟨rfl, by decide, rfl, uw_Y, Or.inl (zmem 142 (by decide +kernel) rfl)⟩
theorem f_Y_15 : zFd n_Y 15 5 3 n_Y T_Y 5 := ⟨rfl, by decide, rfl, uw_Y, Or.inl (zmem 143 (by decide +kernel) rfl)⟩
theorem f_Y_18 : zFd n_Y 18 5 4 n_Y T_Y 5 := ⟨rfl, by decide, rfl, uw_Y, Or.inl (zmem 144 (by decide +kernel) rfl)⟩
theorem f_Y_21 : zFd n_Y 21 5 0 n_Y T_Y 5 := ⟨rfl, by decide, rfl, uw_Y, Or.inl (zmem 140 (by decide +kernel) rfl)⟩
theorem f_Y_25 : zFd n_Y 25 5 1 n_Y T_Y 5 := ⟨rfl, by decide, rfl, uw_Y, Or.inl (zmem 141 (by decide +kernel) rfl)⟩
theorem f_Y_36 : zFd n_Y 36 2 0 n_G T_G 11 := ⟨rfl, by decide, rfl, uw_G, Or.inr ⟨n_C, zmem 91 (by decide +kernel) rfl⟩⟩
theorem f_Y_42 : zFd n_Y 42 4 1 n_S T_S 9 := ⟨rfl, by decide, rfl, uw_S, Or.inr ⟨n_C, zmem 180 (by decide +kernel) rfl⟩⟩
theorem f_Y_51 : zFd n_Y 51 4 2 n_S T_S 9 := ⟨rfl, by decide, rfl, uw_S, Or.inr ⟨n_C, zmem 182 (by decide +kernel) rfl⟩⟩
theorem f_Y_75 : zFd n_Y 75 2 2 n_G T_G 11 := ⟨rfl, by decide, rfl, uw_G, Or.inr ⟨n_C, zmem 95 (by decide +kernel) rfl⟩⟩
theorem f_Y_78 : zFd n_Y 78 2 3 n_G T_G 11 := ⟨rfl, by decide, rfl, uw_G, Or.inr ⟨n_C, zmem 98 (by decide +kernel) rfl⟩⟩
theorem f_Y_85 : zFd n_Y 85 2 4 n_G T_G 11 := ⟨rfl, by decide, rfl, uw_G, Or.inr ⟨n_C, zmem 100 (by decide +kernel) rfl⟩⟩
theorem f_Y_120 : zFd n_Y 120 0 3 n_A T_A 4 := ⟨rfl, by decide, rfl, uw_A, Or.inr ⟨n_C, zmem 74 (by decide +kernel) rfl⟩⟩
theorem f_Y_129 : zFd n_Y 129 4 3 n_S T_S 9 := ⟨rfl, by decide, rfl, uw_S, Or.inr ⟨n_C, zmem 184 (by decide +kernel) rfl⟩⟩
theorem f_Y_132 : zFd n_Y 132 4 4 n_S T_S 9 := ⟨rfl, by decide, rfl, uw_S, Or.inr ⟨n_C, zmem 187 (by decide +kernel) rfl⟩⟩
theorem f_Y_135 : zFd n_Y 135 2 6 n_G T_G 11 := ⟨rfl, by decide, rfl, uw_G, Or.inr ⟨n_C, zmem 105 (by decide +kernel) rfl⟩⟩
theorem f_Y_138 : zFd n_Y 138 4 0 n_S T_S 9 := ⟨rfl, by decide, rfl, uw_S, Or.inr ⟨n_C, zmem 179 (by decide +kernel) rfl⟩⟩
theorem f_Y_147 : zFd n_Y 147 4 5 n_S T_S 9 := ⟨rfl, by decide, rfl, uw_S, Or.inr ⟨n_C, zmem 192 (by decide +kernel) rfl⟩⟩
theorem f_Y_148 : zFd n_Y 148 4 6 n_S T_S 9 := ⟨rfl, by decide, rfl, uw_S, Or.inr ⟨n_C, zmem 194 (by decide +kernel) rfl⟩⟩
theorem f_Y_149 : zFd n_Y 149 4 7 n_S T_S 9 := ⟨rfl, by decide, rfl, uw_S, Or.inr ⟨n_C, zmem 196 (by decide +kernel) rfl⟩⟩
theorem f_Y_152 : zFd n_Y 152 2 5 n_G T_G 11 := ⟨rfl, by decide, rfl, uw_G, Or.inr ⟨n_C, zmem 103 (by decide +kernel) rfl⟩⟩
theorem f_Y_153 : zFd n_Y 153 4 8 n_S T_S 9 := ⟨rfl, by decide, rfl, uw_S, Or.inr ⟨n_C, zmem 199 (by decide +kernel) rfl⟩⟩
end
section
/-- words by their places: below 1000 in the tables, else among those on statics -/
def zchk : List Nat → List Cond → Bool
  | [], [] => true
  | i :: is, w :: ws => (if i < 1000 then decide (tables_1[i]? = some w) && zok w else decide (zWH[i - 1000]? = some w)) && zchk is ws
  | _, _ => false
theorem zchk_ok : ∀ (is : List Nat) (ws : List Cond), zchk is ws = true → ∀ w ∈ ws, w ∈ zWS ∨ w ∈ zWH
  | [], [], _, w, hw => by cases hw
  | [], _ :: _, h, _, _ => by simp [zchk] at h
  | _ :: _, [], h, _, _ => by simp [zchk] at h
  | i :: is, w :: ws, h, v, hv => by
    simp only [zchk, Bool.and_eq_true] at h
    rcases List.mem_cons.mp hv with rfl | hv
    · by_cases hi : i < 1000
      · simp only [hi, if_true, Bool.and_eq_true, decide_eq_true_eq] at h
        exact Or.inl (zmem i h.1.1 h.1.2)
      · simp only [hi, if_false, decide_eq_true_eq] at h
        exact Or.inr (List.mem_of_getElem? h.1)
    · exact zchk_ok is ws h.2 v hv
theorem w_C_50 : zTw n_C 50 52 0 := ⟨zmem 395 (by decide +kernel) rfl, zmem 396 (by decide +kernel) rfl, zmem 12 (by decide +kernel) rfl, zchk_ok [9, 417, 426, 430, 433, 435, 418, 419, 21, 22, 420, 425, 431, 447, 407, 448, 409, 449, 411, 421, 1002, 423, 1003, 413, 437, 438, 439, 440, 398, 440, 441, 442, 443, 400, 443, 444, 445, 418, 402, 436, 396, 397, 404, 405, 406, 408, 410, 412, 1000, 1001, 416, 415, 414] _ (by decide +kernel), by decide +kernel⟩
theorem w_C_57 : zTw n_C 57 59 1 := ⟨zmem 458 (by decide +kernel) rfl, zmem 459 (by decide +kernel) rfl, zmem 13 (by decide +kernel) rfl, zchk_ok [9, 417, 426, 430, 433, 435, 418, 419, 21, 22, 420, 425, 431, 447, 407, 448, 409, 449, 411, 421, 1002, 423, 1003, 413, 468, 469, 470, 440, 398, 440, 441, 442, 443, 400, 443, 444, 445, 418, 402, 467, 459, 460, 461, 428, 462, 463, 464, 465, 1000, 1001, 416, 415, 466] _ (by decide +kernel), by decide +kernel⟩
theorem w_C_160 : zTw n_C 160 162 2 := ⟨zmem 616 (by decide +kernel) rfl, zmem 617 (by decide +kernel) rfl, zmem 14 (by decide +kernel) rfl, zchk_ok [9, 417, 426, 430, 433, 435, 418, 419, 21, 22, 420, 425, 431, 447, 407, 448, 409, 449, 411, 421, 1002, 423, 1003, 413, 626, 627, 628, 440, 398, 440, 441, 442, 443, 400, 443, 444, 445, 418, 402, 625, 617, 618, 619, 429, 620, 621, 622, 623, 1000, 1001, 416, 415, 624] _ (by decide +kernel), by decide +kernel⟩
end
section
theorem k_A_22 : zCv n_A 22 y_M_begin b_M_begin 4 none n_M 2 := ⟨Or.inl (zmem 477 (by decide +kernel) rfl), zmem 478 (by decide +kernel) rfl, zmem 479 (by decide +kernel) rfl, zmem 480 (by decide +kernel) rfl, zmem 3 (by decide +kernel) rfl, ⟨by decide, by decide⟩, by decide +kernel⟩
theorem k_A_32 : zCs n_A 32 y_C_hasBit b_C_hasBit 2 (some .boolean) [] 2 := ⟨Or.inr ⟨n_C, zmem 264 (by decide +kernel) rfl⟩, zmem 265 (by decide +kernel) rfl, zmem 266 (by decide +kernel) rfl, zmem 1 (by decide +kernel) rfl, ⟨by decide, by decide⟩, by decide +kernel⟩
theorem k_A_36 : zCv n_A 36 y_A_hasNumber b_A_hasNumber 2 (some .boolean) n_A 1 := ⟨Or.inl (zmem 514 (by decide +kernel) rfl), zmem 515 (by decide +kernel) rfl, zmem 516 (by decide +kernel) rfl, zmem 517 (by decide +kernel) rfl, zmem 2 (by decide +kernel) rfl, ⟨by decide, by decide⟩, by decide +kernel⟩
theorem k_A_49 : zCv n_A 49 y_A_plants b_A_plants 3 (some .int) n_A 0 := ⟨Or.inl (zmem 267 (by decide +kernel) rfl), zmem 268 (by decide +kernel) rfl, zmem 269 (by decide +kernel) rfl, zmem 270 (by decide +kernel) rfl, zmem 2 (by decide +kernel) rfl, ⟨by decide, by decide⟩, by decide +kernel⟩
theorem k_A_53 : zCs n_A 53 y_A_withState b_A_withState 4 (some .int) [] 3 := ⟨Or.inl (zmem 283 (by decide +kernel) rfl), zmem 284 (by decide +kernel) rfl, zmem 285 (by decide +kernel) rfl, zmem 2 (by decide +kernel) rfl, ⟨by decide, by decide⟩, by decide +kernel⟩
theorem k_A_60 : zCs n_A 60 y_A_stateIn b_A_stateIn 2 (some .int) [] 2 := ⟨Or.inl (zmem 302 (by decide +kernel) rfl), zmem 303 (by decide +kernel) rfl, zmem 304 (by decide +kernel) rfl, zmem 2 (by decide +kernel) rfl, ⟨by decide, by decide⟩, by decide +kernel⟩
theorem k_A_70 : zCv n_A 70 y_M_eventsNotStopped b_M_eventsNotStopped 2 (some .int) n_M 1 := ⟨Or.inl (zmem 313 (by decide +kernel) rfl), zmem 314 (by decide +kernel) rfl, zmem 315 (by decide +kernel) rfl, zmem 316 (by decide +kernel) rfl, zmem 3 (by decide +kernel) rfl, ⟨by decide, by decide⟩, by decide +kernel⟩
theorem k_A_74 : zCv n_A 74 y_M_follow b_M_follow 3 (some .int) n_M 2 := ⟨Or.inl (zmem 326 (by decide +kernel) rfl), zmem 327 (by decide +kernel) rfl, zmem 328 (by decide +kernel) rfl, zmem 329 (by decide +kernel) rfl, zmem 3 (by decide +kernel) rfl, ⟨by decide, by decide⟩, by decide +kernel⟩
theorem k_C_64 : zCv n_C 64 y_A_add b_A_add 3 (some .int) n_A 2 := ⟨Or.inl (zmem 473 (by decide +kernel) rfl), zmem 474 (by decide +kernel) rfl, zmem 475 (by decide +kernel) rfl, zmem 476 (by decide +kernel) rfl, zmem 2 (by decide +kernel) rfl, ⟨by decide, by decide⟩, by decide +kernel⟩
theorem k_C_68 : zCs n_C 68 y_C_requireEvent b_C_requireEvent 1 none [] 1 := ⟨Or.inl (zmem 488 (by decide +kernel) rfl), zmem 489 (by decide +kernel) rfl, zmem 490 (by decide +kernel) rfl, zmem 1 (by decide +kernel) rfl, ⟨by decide, by decide⟩, by decide +kernel⟩
theorem k_C_72 : zCv n_C 72 y_A_isDeclared b_A_isDeclared 2 (some .boolean) n_A 1 := ⟨Or.inl (zmem 491 (by decide +kernel) rfl), zmem 492 (by decide +kernel) rfl, zmem 493 (by decide +kernel) rfl, zmem 494 (by decide +kernel) rfl, zmem 2 (by decide +kernel) rfl, ⟨by decide, by decide⟩, by decide +kernel⟩
theorem k_C_76 : zCv n_C 76 y_A_isControllable b_A_isControllable 2 (some .boolean) n_A 1 := ⟨Or.inl (zmem 495 (by decide +kernel) rfl), zmem 496 (by decide +kernel) rfl, zmem 497 (by decide +kernel) rfl, zmem 498 (by decide +kernel) rfl, zmem 2 (by decide +kernel) rfl, ⟨by decide, by decide⟩, by decide +kernel⟩
theorem k_C_79 : zCv n_C 79 y_A_declare b_A_declare 3 none n_A 2 := ⟨Or.inl (zmem 499 (by decide +kernel) rfl), zmem 500 (by decide +kernel) rfl, zmem 501 (by decide +kernel) rfl, zmem 502 (by decide +kernel) rfl, zmem 2 (by decide +kernel) rfl, ⟨by decide, by decide⟩, by decide +kernel⟩
theorem k_C_83 : zCv n_C 83 y_A_hasState b_A_hasState 3 (some .boolean) n_A 2 := ⟨Or.inl (zmem 510 (by decide +kernel) rfl), zmem 511 (by decide +kernel) rfl, zmem 512 (by decide +kernel) rfl, zmem 513 (by decide +kernel) rfl, zmem 2 (by decide +kernel) rfl, ⟨by decide, by decide⟩, by decide +kernel⟩
theorem k_C_91 : zCv n_C 91 y_M_hasEdge b_M_hasEdge 3 (some .boolean) n_M 2 := ⟨Or.inl (zmem 518 (by decide +kernel) rfl), zmem 519 (by decide +kernel) rfl, zmem 520 (by decide +kernel) rfl, zmem 521 (by decide +kernel) rfl, zmem 3 (by decide +kernel) rfl, ⟨by decide, by decide⟩, by decide +kernel⟩
theorem k_C_96 : zCv n_C 96 y_M_addEdge b_M_addEdge 4 none n_M 3 := ⟨Or.inl (zmem 523 (by decide +kernel) rfl), zmem 524 (by decide +kernel) rfl, zmem 525 (by decide +kernel) rfl, zmem 526 (by decide +kernel) rfl, zmem 3 (by decide +kernel) rfl, ⟨by decide, by decide⟩, by decide +kernel⟩
theorem k_C_100 : zCv n_C 100 y_M_change b_M_change 4 none n_M 3 := ⟨Or.inl (zmem 534 (by decide +kernel) rfl), zmem 535 (by decide +kernel) rfl, zmem 536 (by decide +kernel) rfl, zmem 537 (by decide +kernel) rfl, zmem 3 (by decide +kernel) rfl, ⟨by decide, by decide⟩, by decide +kernel⟩
theorem k_C_104 : zCv n_C 104 y_A_removeAll b_A_removeAll 1 none n_A 0 := ⟨Or.inl (zmem 248 (by decide +kernel) rfl), zmem 249 (by decide +kernel) rfl, zmem 250 (by decide +kernel) rfl, zmem 251 (by decide +kernel) rfl, zmem 2 (by decide +kernel) rfl, ⟨by decide, by decide⟩, by decide +kernel⟩
theorem k_C_107 : zCv n_C 107 y_A_everyone b_A_everyone 1 (some .int) n_A 0 := ⟨Or.inl (zmem 256 (by decide +kernel) rfl), zmem 257 (by decide +kernel) rfl, zmem 258 (by decide +kernel) rfl, zmem 259 (by decide +kernel) rfl, zmem 2 (by decide +kernel) rfl, ⟨by decide, by decide⟩, by decide +kernel⟩
theorem k_C_111 : zCv n_C 111 y_A_areReady b_A_areReady 3 (some .boolean) n_A 1 := ⟨Or.inl (zmem 260 (by decide +kernel) rfl), zmem 261 (by decide +kernel) rfl, zmem 262 (by decide +kernel) rfl, zmem 263 (by decide +kernel) rfl, zmem 2 (by decide +kernel) rfl, ⟨by decide, by decide⟩, by decide +kernel⟩
theorem k_C_114 : zCv n_C 114 y_Y_build b_Y_build 3 (some .boolean) n_Y 2 := ⟨Or.inl (zmem 271 (by decide +kernel) rfl), zmem 272 (by decide +kernel) rfl, zmem 273 (by decide +kernel) rfl, zmem 274 (by decide +kernel) rfl, zmem 5 (by decide +kernel) rfl, ⟨by decide, by decide⟩, by decide +kernel⟩
theorem k_C_122 : zCv n_C 122 y_C_requireStateAndEvent b_C_requireStateAndEvent 3 none n_C 2 := ⟨Or.inl (zmem 552 (by decide +kernel) rfl), zmem 554 (by decide +kernel) rfl, zmemS 14 (by decide +kernel) rfl, zmem 555 (by decide +kernel) rfl, zmem 1 (by decide +kernel) rfl, ⟨by decide, by decide⟩, by decide +kernel⟩
theorem k_C_126 : zCv n_C 126 y_S_verdict b_S_verdict 3 (some .int) n_S 2 := ⟨Or.inl (zmem 564 (by decide +kernel) rfl), zmem 565 (by decide +kernel) rfl, zmem 566 (by decide +kernel) rfl, zmem 567 (by decide +kernel) rfl, zmem 7 (by decide +kernel) rfl, ⟨by decide, by decide⟩, by decide +kernel⟩
theorem k_C_129 : zCv n_C 129 y_S_target b_S_target 3 (some .int) n_S 2 := ⟨Or.inl (zmem 580 (by decide +kernel) rfl), zmem 569 (by decide +kernel) rfl, zmem 570 (by decide +kernel) rfl, zmem 571 (by decide +kernel) rfl, zmem 7 (by decide +kernel) rfl, ⟨by decide, by decide⟩, by decide +kernel⟩
theorem k_C_132 : zCv n_C 132 y_C_requireSupervisor b_C_requireSupervisor 1 none n_C 0 := ⟨Or.inl (zmem 556 (by decide +kernel) rfl), zmem 558 (by decide +kernel) rfl, zmemS 15 (by decide +kernel) rfl, zmem 559 (by decide +kernel) rfl, zmem 1 (by decide +kernel) rfl, ⟨by decide, by decide⟩, by decide +kernel⟩
theorem k_C_135 : zCv n_C 135 y_C_requireState b_C_requireState 2 none n_C 1 := ⟨Or.inl (zmem 560 (by decide +kernel) rfl), zmem 562 (by decide +kernel) rfl, zmemS 16 (by decide +kernel) rfl, zmem 563 (by decide +kernel) rfl, zmem 1 (by decide +kernel) rfl, ⟨by decide, by decide⟩, by decide +kernel⟩
theorem k_C_138 : zCv n_C 138 y_A_hasNumber b_A_hasNumber 2 (some .boolean) n_A 1 := ⟨Or.inl (zmem 588 (by decide +kernel) rfl), zmem 515 (by decide +kernel) rfl, zmem 516 (by decide +kernel) rfl, zmem 517 (by decide +kernel) rfl, zmem 2 (by decide +kernel) rfl, ⟨by decide, by decide⟩, by decide +kernel⟩
theorem k_C_145 : zCs n_C 145 y_A_stateIn b_A_stateIn 2 (some .int) [] 2 := ⟨Or.inl (zmem 589 (by decide +kernel) rfl), zmem 303 (by decide +kernel) rfl, zmem 304 (by decide +kernel) rfl, zmem 2 (by decide +kernel) rfl, ⟨by decide, by decide⟩, by decide +kernel⟩
theorem k_C_148 : zCv n_C 148 y_C_requireResult b_C_requireResult 1 none n_C 0 := ⟨Or.inl (zmem 597 (by decide +kernel) rfl), zmem 599 (by decide +kernel) rfl, zmemS 17 (by decide +kernel) rfl, zmem 600 (by decide +kernel) rfl, zmem 1 (by decide +kernel) rfl, ⟨by decide, by decide⟩, by decide +kernel⟩
theorem k_C_166 : zCv n_C 166 y_A_isRule b_A_isRule 2 (some .boolean) n_A 1 := ⟨Or.inl (zmem 638 (by decide +kernel) rfl), zmem 639 (by decide +kernel) rfl, zmem 640 (by decide +kernel) rfl, zmem 641 (by decide +kernel) rfl, zmem 2 (by decide +kernel) rfl, ⟨by decide, by decide⟩, by decide +kernel⟩
theorem k_C_169 : zCv n_C 169 y_C_superviseUnder b_C_superviseUnder 4 (some .boolean) n_C 2 := ⟨Or.inl (zmem 642 (by decide +kernel) rfl), zmem 644 (by decide +kernel) rfl, zmemS 18 (by decide +kernel) rfl, zmem 645 (by decide +kernel) rfl, zmem 1 (by decide +kernel) rfl, ⟨by decide, by decide⟩, by decide +kernel⟩
theorem k_C_172 : zCv n_C 172 y_P_explore b_P_explore 4 (some .boolean) n_P 2 := ⟨Or.inl (zmem 647 (by decide +kernel) rfl), zmem 648 (by decide +kernel) rfl, zmem 649 (by decide +kernel) rfl, zmem 650 (by decide +kernel) rfl, zmem 6 (by decide +kernel) rfl, ⟨by decide, by decide⟩, by decide +kernel⟩
theorem k_C_176 : zCv n_C 176 y_P_haveDeadEnd b_P_haveDeadEnd 1 (some .boolean) n_P 0 := ⟨Or.inl (zmem 665 (by decide +kernel) rfl), zmem 666 (by decide +kernel) rfl, zmem 667 (by decide +kernel) rfl, zmem 668 (by decide +kernel) rfl, zmem 6 (by decide +kernel) rfl, ⟨by decide, by decide⟩, by decide +kernel⟩
theorem k_C_183 : zCv n_C 183 y_A_plants b_A_plants 3 (some .int) n_A 0 := ⟨Or.inl (zmem 646 (by decide +kernel) rfl), zmem 268 (by decide +kernel) rfl, zmem 269 (by decide +kernel) rfl, zmem 270 (by decide +kernel) rfl, zmem 2 (by decide +kernel) rfl, ⟨by decide, by decide⟩, by decide +kernel⟩
theorem k_G_47 : zCv n_G 47 y_G_add b_G_add 4 none n_G 2 := ⟨Or.inl (zmem 290 (by decide +kernel) rfl), zmem 292 (by decide +kernel) rfl, zmemS 1 (by decide +kernel) rfl, zmem 293 (by decide +kernel) rfl, zmem 4 (by decide +kernel) rfl, ⟨by decide, by decide⟩, by decide +kernel⟩
theorem k_G_51 : zCv n_G 51 y_G_measureInto b_G_measureInto 7 (some .int) n_G 2 := ⟨Or.inl (zmem 354 (by decide +kernel) rfl), zmem 356 (by decide +kernel) rfl, zmemS 6 (by decide +kernel) rfl, zmem 357 (by decide +kernel) rfl, zmem 4 (by decide +kernel) rfl, ⟨by decide, by decide⟩, by decide +kernel⟩
theorem k_L_7 : zCv n_L 7 y_C_automaton b_C_automaton 3 (some .int) n_C 2 := ⟨Or.inl (zmem 391 (by decide +kernel) rfl), zmem 392 (by decide +kernel) rfl, zmem 393 (by decide +kernel) rfl, zmem 394 (by decide +kernel) rfl, zmem 1 (by decide +kernel) rfl, ⟨by decide, by decide⟩, by decide +kernel⟩
theorem k_L_17 : zCv n_L 17 y_C_event b_C_event 3 (some .boolean) n_C 2 := ⟨Or.inl (zmem 484 (by decide +kernel) rfl), zmem 485 (by decide +kernel) rfl, zmem 486 (by decide +kernel) rfl, zmem 487 (by decide +kernel) rfl, zmem 1 (by decide +kernel) rfl, ⟨by decide, by decide⟩, by decide +kernel⟩
theorem k_L_21 : zCv n_L 21 y_C_edge b_C_edge 5 none n_C 4 := ⟨Or.inl (zmem 506 (by decide +kernel) rfl), zmem 507 (by decide +kernel) rfl, zmem 508 (by decide +kernel) rfl, zmem 509 (by decide +kernel) rfl, zmem 1 (by decide +kernel) rfl, ⟨by decide, by decide⟩, by decide +kernel⟩
theorem k_L_25 : zCv n_L 25 y_C_tell b_C_tell 5 none n_C 4 := ⟨Or.inl (zmem 530 (by decide +kernel) rfl), zmem 531 (by decide +kernel) rfl, zmem 532 (by decide +kernel) rfl, zmem 533 (by decide +kernel) rfl, zmem 1 (by decide +kernel) rfl, ⟨by decide, by decide⟩, by decide +kernel⟩
theorem k_L_29 : zCv n_L 29 y_C_says b_C_says 3 (some .int) n_C 2 := ⟨Or.inl (zmem 548 (by decide +kernel) rfl), zmem 549 (by decide +kernel) rfl, zmem 550 (by decide +kernel) rfl, zmem 551 (by decide +kernel) rfl, zmem 1 (by decide +kernel) rfl, ⟨by decide, by decide⟩, by decide +kernel⟩
theorem k_L_32 : zCv n_L 32 y_C_leads b_C_leads 3 (some .int) n_C 2 := ⟨Or.inl (zmem 576 (by decide +kernel) rfl), zmem 577 (by decide +kernel) rfl, zmem 578 (by decide +kernel) rfl, zmem 579 (by decide +kernel) rfl, zmem 1 (by decide +kernel) rfl, ⟨by decide, by decide⟩, by decide +kernel⟩
theorem k_L_35 : zCv n_L 35 y_C_part b_C_part 3 (some .int) n_C 2 := ⟨Or.inl (zmem 584 (by decide +kernel) rfl), zmem 585 (by decide +kernel) rfl, zmem 586 (by decide +kernel) rfl, zmem 587 (by decide +kernel) rfl, zmem 1 (by decide +kernel) rfl, ⟨by decide, by decide⟩, by decide +kernel⟩
theorem k_L_38 : zCv n_L 38 y_C_many b_C_many 2 (some .int) n_C 1 := ⟨Or.inl (zmem 593 (by decide +kernel) rfl), zmem 594 (by decide +kernel) rfl, zmem 595 (by decide +kernel) rfl, zmem 596 (by decide +kernel) rfl, zmem 1 (by decide +kernel) rfl, ⟨by decide, by decide⟩, by decide +kernel⟩
theorem k_L_42 : zCv n_L 42 y_C_why b_C_why 1 (some .int) n_C 0 := ⟨Or.inl (zmem 604 (by decide +kernel) rfl), zmem 605 (by decide +kernel) rfl, zmem 606 (by decide +kernel) rfl, zmem 607 (by decide +kernel) rfl, zmem 1 (by decide +kernel) rfl, ⟨by decide, by decide⟩, by decide +kernel⟩
theorem k_L_46 : zCv n_L 46 y_C_whyEvent b_C_whyEvent 2 (some .int) n_C 1 := ⟨Or.inl (zmem 612 (by decide +kernel) rfl), zmem 613 (by decide +kernel) rfl, zmem 614 (by decide +kernel) rfl, zmem 615 (by decide +kernel) rfl, zmem 1 (by decide +kernel) rfl, ⟨by decide, by decide⟩, by decide +kernel⟩
theorem k_L_51 : zCv n_L 51 y_C_conflict b_C_conflict 3 (some .int) n_C 2 := ⟨Or.inl (zmem 634 (by decide +kernel) rfl), zmem 635 (by decide +kernel) rfl, zmem 636 (by decide +kernel) rfl, zmem 637 (by decide +kernel) rfl, zmem 1 (by decide +kernel) rfl, ⟨by decide, by decide⟩, by decide +kernel⟩
theorem k_L_54 : zCv n_L 54 y_C_act b_C_act 3 (some .int) n_C 1 := ⟨Or.inl (zmem 674 (by decide +kernel) rfl), zmem 675 (by decide +kernel) rfl, zmem 676 (by decide +kernel) rfl, zmem 677 (by decide +kernel) rfl, zmem 1 (by decide +kernel) rfl, ⟨by decide, by decide⟩, by decide +kernel⟩
theorem k_L_57 : zCv n_L 57 y_C_reset b_C_reset 1 none n_C 0 := ⟨Or.inl (zmem 681 (by decide +kernel) rfl), zmem 682 (by decide +kernel) rfl, zmem 683 (by decide +kernel) rfl, zmem 684 (by decide +kernel) rfl, zmem 1 (by decide +kernel) rfl, ⟨by decide, by decide⟩, by decide +kernel⟩
theorem k_L_60 : zCv n_L 60 y_C_here b_C_here 1 (some .int) n_C 0 := ⟨Or.inl (zmem 688 (by decide +kernel) rfl), zmem 689 (by decide +kernel) rfl, zmem 690 (by decide +kernel) rfl, zmem 691 (by decide +kernel) rfl, zmem 1 (by decide +kernel) rfl, ⟨by decide, by decide⟩, by decide +kernel⟩
theorem k_L_63 : zCv n_L 63 y_C_allowed b_C_allowed 3 (some .int) n_C 0 := ⟨Or.inl (zmem 695 (by decide +kernel) rfl), zmem 696 (by decide +kernel) rfl, zmem 697 (by decide +kernel) rfl, zmem 698 (by decide +kernel) rfl, zmem 1 (by decide +kernel) rfl, ⟨by decide, by decide⟩, by decide +kernel⟩
theorem k_L_66 : zCv n_L 66 y_C_home b_C_home 1 (some .int) n_C 0 := ⟨Or.inl (zmem 702 (by decide +kernel) rfl), zmem 703 (by decide +kernel) rfl, zmem 704 (by decide +kernel) rfl, zmem 705 (by decide +kernel) rfl, zmem 1 (by decide +kernel) rfl, ⟨by decide, by decide⟩, by decide +kernel⟩
theorem k_L_73 : zCs n_L 73 y_L_automaton b_L_automaton 5 (some .int) [(0, 10, 13, 13), (0, 10, 17, 15)] 4 := ⟨Or.inl (zmem 386 (by decide +kernel) rfl), zmem 387 (by decide +kernel) rfl, zmem 388 (by decide +kernel) rfl, zmem 0 (by decide +kernel) rfl, ⟨by decide, by decide⟩, by decide +kernel⟩
theorem k_L_78 : zCv n_L 78 y_R_automaton b_R_automaton 5 (some .int) n_R 2 := ⟨Or.inl (zmem 813 (by decide +kernel) rfl), zmem 814 (by decide +kernel) rfl, zmem 815 (by decide +kernel) rfl, zmem 816 (by decide +kernel) rfl, zmem 8 (by decide +kernel) rfl, ⟨by decide, by decide⟩, by decide +kernel⟩
theorem k_L_79 : zCv n_L 79 y_R_thrown b_R_thrown 1 (some .int) n_R 0 := ⟨Or.inl (zmem 809 (by decide +kernel) rfl), zmem 810 (by decide +kernel) rfl, zmem 811 (by decide +kernel) rfl, zmem 812 (by decide +kernel) rfl, zmem 8 (by decide +kernel) rfl, ⟨by decide, by decide⟩, by decide +kernel⟩
theorem k_L_82 : zCs n_L 82 y_L_event b_L_event 5 (some .int) [(0, 17, 20, 13), (0, 17, 24, 15)] 4 := ⟨Or.inl (zmem 481 (by decide +kernel) rfl), zmem 482 (by decide +kernel) rfl, zmem 483 (by decide +kernel) rfl, zmem 0 (by decide +kernel) rfl, ⟨by decide, by decide⟩, by decide +kernel⟩
theorem k_L_85 : zCv n_L 85 y_R_event b_R_event 4 (some .boolean) n_R 2 := ⟨Or.inl (zmem 828 (by decide +kernel) rfl), zmem 829 (by decide +kernel) rfl, zmem 830 (by decide +kernel) rfl, zmem 831 (by decide +kernel) rfl, zmem 8 (by decide +kernel) rfl, ⟨by decide, by decide⟩, by decide +kernel⟩
theorem k_L_86 : zCs n_L 86 y_L_edge b_L_edge 6 (some .int) [(0, 9, 12, 13), (0, 9, 16, 15)] 5 := ⟨Or.inl (zmem 503 (by decide +kernel) rfl), zmem 504 (by decide +kernel) rfl, zmem 505 (by decide +kernel) rfl, zmem 0 (by decide +kernel) rfl, ⟨by decide, by decide⟩, by decide +kernel⟩
theorem k_L_89 : zCv n_L 89 y_R_edge b_R_edge 6 none n_R 4 := ⟨Or.inl (zmem 832 (by decide +kernel) rfl), zmem 833 (by decide +kernel) rfl, zmem 834 (by decide +kernel) rfl, zmem 835 (by decide +kernel) rfl, zmem 8 (by decide +kernel) rfl, ⟨by decide, by decide⟩, by decide +kernel⟩
theorem k_L_90 : zCs n_L 90 y_L_tell b_L_tell 6 (some .int) [(0, 9, 12, 13)] 5 := ⟨Or.inl (zmem 527 (by decide +kernel) rfl), zmem 528 (by decide +kernel) rfl, zmem 529 (by decide +kernel) rfl, zmem 0 (by decide +kernel) rfl, ⟨by decide, by decide⟩, by decide +kernel⟩
theorem k_L_93 : zCv n_L 93 y_R_tell b_R_tell 5 none n_R 4 := ⟨Or.inl (zmem 840 (by decide +kernel) rfl), zmem 841 (by decide +kernel) rfl, zmem 842 (by decide +kernel) rfl, zmem 843 (by decide +kernel) rfl, zmem 8 (by decide +kernel) rfl, ⟨by decide, by decide⟩, by decide +kernel⟩
theorem k_L_94 : zCv n_L 94 y_C_clear b_C_clear 1 none n_C 0 := ⟨Or.inl (zmem 244 (by decide +kernel) rfl), zmem 245 (by decide +kernel) rfl, zmem 246 (by decide +kernel) rfl, zmem 247 (by decide +kernel) rfl, zmem 1 (by decide +kernel) rfl, ⟨by decide, by decide⟩, by decide +kernel⟩
theorem k_L_97 : zCv n_L 97 y_R_clear b_R_clear 2 none n_R 0 := ⟨Or.inl (zmem 844 (by decide +kernel) rfl), zmem 845 (by decide +kernel) rfl, zmem 846 (by decide +kernel) rfl, zmem 847 (by decide +kernel) rfl, zmem 8 (by decide +kernel) rfl, ⟨by decide, by decide⟩, by decide +kernel⟩
theorem k_L_98 : zCv n_L 98 y_C_make b_C_make 2 (some .int) n_C 0 := ⟨Or.inl (zmem 252 (by decide +kernel) rfl), zmem 253 (by decide +kernel) rfl, zmem 254 (by decide +kernel) rfl, zmem 255 (by decide +kernel) rfl, zmem 1 (by decide +kernel) rfl, ⟨by decide, by decide⟩, by decide +kernel⟩
theorem k_L_101 : zCv n_L 101 y_R_make b_R_make 3 (some .int) n_R 0 := ⟨Or.inl (zmem 848 (by decide +kernel) rfl), zmem 849 (by decide +kernel) rfl, zmem 850 (by decide +kernel) rfl, zmem 851 (by decide +kernel) rfl, zmem 8 (by decide +kernel) rfl, ⟨by decide, by decide⟩, by decide +kernel⟩
theorem k_L_102 : zCs n_L 102 y_L_says b_L_says 5 (some .int) [(0, 10, 13, 15), (0, 10, 17, 13)] 4 := ⟨Or.inl (zmem 545 (by decide +kernel) rfl), zmem 546 (by decide +kernel) rfl, zmem 547 (by decide +kernel) rfl, zmem 0 (by decide +kernel) rfl, ⟨by decide, by decide⟩, by decide +kernel⟩
theorem k_L_104 : zCv n_L 104 y_R_says b_R_says 4 (some .int) n_R 2 := ⟨Or.inl (zmem 899 (by decide +kernel) rfl), zmem 900 (by decide +kernel) rfl, zmem 901 (by decide +kernel) rfl, zmem 902 (by decide +kernel) rfl, zmem 8 (by decide +kernel) rfl, ⟨by decide, by decide⟩, by decide +kernel⟩
theorem k_L_105 : zCs n_L 105 y_L_leads b_L_leads 5 (some .int) [(0, 10, 13, 15), (0, 10, 17, 13)] 4 := ⟨Or.inl (zmem 573 (by decide +kernel) rfl), zmem 574 (by decide +kernel) rfl, zmem 575 (by decide +kernel) rfl, zmem 0 (by decide +kernel) rfl, ⟨by decide, by decide⟩, by decide +kernel⟩
theorem k_L_107 : zCv n_L 107 y_R_leads b_R_leads 4 (some .int) n_R 2 := ⟨Or.inl (zmem 907 (by decide +kernel) rfl), zmem 908 (by decide +kernel) rfl, zmem 909 (by decide +kernel) rfl, zmem 910 (by decide +kernel) rfl, zmem 8 (by decide +kernel) rfl, ⟨by decide, by decide⟩, by decide +kernel⟩
theorem k_L_108 : zCs n_L 108 y_L_part b_L_part 5 (some .int) [(0, 10, 13, 15), (0, 10, 17, 13)] 4 := ⟨Or.inl (zmem 581 (by decide +kernel) rfl), zmem 582 (by decide +kernel) rfl, zmem 583 (by decide +kernel) rfl, zmem 0 (by decide +kernel) rfl, ⟨by decide, by decide⟩, by decide +kernel⟩
theorem k_L_110 : zCv n_L 110 y_R_part b_R_part 3 (some .int) n_R 2 := ⟨Or.inl (zmem 911 (by decide +kernel) rfl), zmem 912 (by decide +kernel) rfl, zmem 913 (by decide +kernel) rfl, zmem 914 (by decide +kernel) rfl, zmem 8 (by decide +kernel) rfl, ⟨by decide, by decide⟩, by decide +kernel⟩
theorem k_L_111 : zCs n_L 111 y_L_many b_L_many 4 (some .int) [(0, 9, 12, 13), (0, 9, 15, 15)] 3 := ⟨Or.inl (zmem 590 (by decide +kernel) rfl), zmem 591 (by decide +kernel) rfl, zmem 592 (by decide +kernel) rfl, zmem 0 (by decide +kernel) rfl, ⟨by decide, by decide⟩, by decide +kernel⟩
theorem k_L_114 : zCv n_L 114 y_R_many b_R_many 5 (some .int) n_R 1 := ⟨Or.inl (zmem 915 (by decide +kernel) rfl), zmem 916 (by decide +kernel) rfl, zmem 917 (by decide +kernel) rfl, zmem 918 (by decide +kernel) rfl, zmem 8 (by decide +kernel) rfl, ⟨by decide, by decide⟩, by decide +kernel⟩
end
section
theorem k_L_115 : zCs n_L 115 y_L_why b_L_why 3 (some .int) [(0, 8, 11, 15)] 2 := ⟨Or.inl (zmem 601 (by decide +kernel) rfl), zmem 602 (by decide +kernel) rfl, zmem 603 (by decide +kernel) rfl, zmem 0 (by decide +kernel) rfl, ⟨by decide, by decide⟩, by decide +kernel⟩
theorem k_L_118 : zCv n_L 118 y_R_why b_R_why 1 (some .int) n_R 0 := ⟨Or.inl (zmem 919 (by decide +kernel) rfl), zmem 920 (by decide +kernel) rfl, zmem 921 (by decide +kernel) rfl, zmem 922 (by decide +kernel) rfl, zmem 8 (by decide +kernel) rfl, ⟨by decide, by decide⟩, by decide +kernel⟩
theorem k_L_119 : zCs n_L 119 y_L_whyEvent b_L_whyEvent 4 (some .int) [(0, 9, 12, 15), (0, 9, 15, 49)] 3 := ⟨Or.inl (zmem 608 (by decide +kernel) rfl), zmem 609 (by decide +kernel) rfl, zmem 610 (by decide +kernel) rfl, zmem 0 (by decide +kernel) rfl, ⟨by decide, by decide⟩, by decide +kernel⟩
theorem k_L_121 : zCv n_L 121 y_R_whyEvent b_R_whyEvent 2 (some .int) n_R 1 := ⟨Or.inl (zmem 923 (by decide +kernel) rfl), zmem 924 (by decide +kernel) rfl, zmem 925 (by decide +kernel) rfl, zmem 926 (by decide +kernel) rfl, zmem 8 (by decide +kernel) rfl, ⟨by decide, by decide⟩, by decide +kernel⟩
theorem k_L_122 : zCs n_L 122 y_L_conflict b_L_conflict 5 (some .int) [(0, 10, 13, 13)] 4 := ⟨Or.inl (zmem 631 (by decide +kernel) rfl), zmem 632 (by decide +kernel) rfl, zmem 633 (by decide +kernel) rfl, zmem 0 (by decide +kernel) rfl, ⟨by decide, by decide⟩, by decide +kernel⟩
theorem k_L_124 : zCv n_L 124 y_R_conflict b_R_conflict 7 (some .int) n_R 2 := ⟨Or.inl (zmem 927 (by decide +kernel) rfl), zmem 928 (by decide +kernel) rfl, zmem 929 (by decide +kernel) rfl, zmem 930 (by decide +kernel) rfl, zmem 8 (by decide +kernel) rfl, ⟨by decide, by decide⟩, by decide +kernel⟩
theorem k_L_125 : zCs n_L 125 y_L_act b_L_act 4 (some .int) [(0, 9, 12, 15), (0, 9, 15, 13)] 3 := ⟨Or.inl (zmem 671 (by decide +kernel) rfl), zmem 672 (by decide +kernel) rfl, zmem 673 (by decide +kernel) rfl, zmem 0 (by decide +kernel) rfl, ⟨by decide, by decide⟩, by decide +kernel⟩
theorem k_L_127 : zCv n_L 127 y_R_act b_R_act 2 (some .int) n_R 1 := ⟨Or.inl (zmem 947 (by decide +kernel) rfl), zmem 948 (by decide +kernel) rfl, zmem 949 (by decide +kernel) rfl, zmem 950 (by decide +kernel) rfl, zmem 8 (by decide +kernel) rfl, ⟨by decide, by decide⟩, by decide +kernel⟩
theorem k_L_128 : zCs n_L 128 y_L_reset b_L_reset 2 (some .int) [(0, 4, 7, 15)] 1 := ⟨Or.inl (zmem 678 (by decide +kernel) rfl), zmem 679 (by decide +kernel) rfl, zmem 680 (by decide +kernel) rfl, zmem 0 (by decide +kernel) rfl, ⟨by decide, by decide⟩, by decide +kernel⟩
theorem k_L_131 : zCv n_L 131 y_R_reset b_R_reset 1 none n_R 0 := ⟨Or.inl (zmem 951 (by decide +kernel) rfl), zmem 952 (by decide +kernel) rfl, zmem 953 (by decide +kernel) rfl, zmem 954 (by decide +kernel) rfl, zmem 8 (by decide +kernel) rfl, ⟨by decide, by decide⟩, by decide +kernel⟩
theorem k_L_132 : zCs n_L 132 y_L_here b_L_here 3 (some .int) [(0, 8, 11, 15)] 2 := ⟨Or.inl (zmem 685 (by decide +kernel) rfl), zmem 686 (by decide +kernel) rfl, zmem 687 (by decide +kernel) rfl, zmem 0 (by decide +kernel) rfl, ⟨by decide, by decide⟩, by decide +kernel⟩
theorem k_L_134 : zCv n_L 134 y_R_here b_R_here 1 (some .int) n_R 0 := ⟨Or.inl (zmem 955 (by decide +kernel) rfl), zmem 956 (by decide +kernel) rfl, zmem 957 (by decide +kernel) rfl, zmem 958 (by decide +kernel) rfl, zmem 8 (by decide +kernel) rfl, ⟨by decide, by decide⟩, by decide +kernel⟩
theorem k_L_135 : zCs n_L 135 y_L_allowed b_L_allowed 3 (some .int) [(0, 8, 11, 15)] 2 := ⟨Or.inl (zmem 692 (by decide +kernel) rfl), zmem 693 (by decide +kernel) rfl, zmem 694 (by decide +kernel) rfl, zmem 0 (by decide +kernel) rfl, ⟨by decide, by decide⟩, by decide +kernel⟩
theorem k_L_137 : zCv n_L 137 y_R_allowed b_R_allowed 3 (some .int) n_R 0 := ⟨Or.inl (zmem 959 (by decide +kernel) rfl), zmem 960 (by decide +kernel) rfl, zmem 961 (by decide +kernel) rfl, zmem 962 (by decide +kernel) rfl, zmem 8 (by decide +kernel) rfl, ⟨by decide, by decide⟩, by decide +kernel⟩
theorem k_L_138 : zCs n_L 138 y_L_home b_L_home 3 (some .int) [(0, 8, 11, 15)] 2 := ⟨Or.inl (zmem 699 (by decide +kernel) rfl), zmem 700 (by decide +kernel) rfl, zmem 701 (by decide +kernel) rfl, zmem 0 (by decide +kernel) rfl, ⟨by decide, by decide⟩, by decide +kernel⟩
theorem k_L_140 : zCv n_L 140 y_R_home b_R_home 1 (some .int) n_R 0 := ⟨Or.inl (zmem 963 (by decide +kernel) rfl), zmem 964 (by decide +kernel) rfl, zmem 965 (by decide +kernel) rfl, zmem 966 (by decide +kernel) rfl, zmem 8 (by decide +kernel) rfl, ⟨by decide, by decide⟩, by decide +kernel⟩
theorem k_M_37 : zCs n_M 37 y_C_hasBit b_C_hasBit 2 (some .boolean) [] 2 := ⟨Or.inr ⟨n_C, zmem 522 (by decide +kernel) rfl⟩, zmem 265 (by decide +kernel) rfl, zmem 266 (by decide +kernel) rfl, zmem 1 (by decide +kernel) rfl, ⟨by decide, by decide⟩, by decide +kernel⟩
theorem k_M_41 : zCv n_M 41 y_M_changeInitial b_M_changeInitial 3 none n_M 2 := ⟨Or.inl (zmem 538 (by decide +kernel) rfl), zmem 540 (by decide +kernel) rfl, zmemS 13 (by decide +kernel) rfl, zmem 541 (by decide +kernel) rfl, zmem 3 (by decide +kernel) rfl, ⟨by decide, by decide⟩, by decide +kernel⟩
theorem k_M_45 : zCs n_M 45 y_M_withBit b_M_withBit 3 (some .int) [] 3 := ⟨Or.inl (zmem 542 (by decide +kernel) rfl), zmem 543 (by decide +kernel) rfl, zmem 544 (by decide +kernel) rfl, zmem 3 (by decide +kernel) rfl, ⟨by decide, by decide⟩, by decide +kernel⟩
theorem k_P_22 : zCs n_P 22 y_P_pairCode b_P_pairCode 4 (some .int) [] 4 := ⟨Or.inl (zmem 651 (by decide +kernel) rfl), zmem 652 (by decide +kernel) rfl, zmem 653 (by decide +kernel) rfl, zmem 6 (by decide +kernel) rfl, ⟨by decide, by decide⟩, by decide +kernel⟩
theorem k_P_26 : zCv n_P 26 y_G_begin b_G_begin 3 none n_G 1 := ⟨Or.inl (zmem 654 (by decide +kernel) rfl), zmem 287 (by decide +kernel) rfl, zmem 288 (by decide +kernel) rfl, zmem 289 (by decide +kernel) rfl, zmem 4 (by decide +kernel) rfl, ⟨by decide, by decide⟩, by decide +kernel⟩
theorem k_P_36 : zCv n_P 36 y_P_exploreFrom b_P_exploreFrom 8 (some .boolean) n_P 3 := ⟨Or.inl (zmem 655 (by decide +kernel) rfl), zmem 657 (by decide +kernel) rfl, zmemS 19 (by decide +kernel) rfl, zmem 658 (by decide +kernel) rfl, zmem 6 (by decide +kernel) rfl, ⟨by decide, by decide⟩, by decide +kernel⟩
theorem k_P_49 : zCv n_P 49 y_S_isMarked b_S_isMarked 2 (some .boolean) n_S 1 := ⟨Or.inl (zmem 659 (by decide +kernel) rfl), zmem 660 (by decide +kernel) rfl, zmem 661 (by decide +kernel) rfl, zmem 662 (by decide +kernel) rfl, zmem 7 (by decide +kernel) rfl, ⟨by decide, by decide⟩, by decide +kernel⟩
theorem k_P_56 : zCv n_P 56 y_S_target b_S_target 3 (some .int) n_S 2 := ⟨Or.inl (zmem 663 (by decide +kernel) rfl), zmem 569 (by decide +kernel) rfl, zmem 570 (by decide +kernel) rfl, zmem 571 (by decide +kernel) rfl, zmem 7 (by decide +kernel) rfl, ⟨by decide, by decide⟩, by decide +kernel⟩
theorem k_P_60 : zCv n_P 60 y_G_link b_G_link 6 (some .int) n_G 3 := ⟨Or.inl (zmem 664 (by decide +kernel) rfl), zmem 331 (by decide +kernel) rfl, zmem 332 (by decide +kernel) rfl, zmem 333 (by decide +kernel) rfl, zmem 4 (by decide +kernel) rfl, ⟨by decide, by decide⟩, by decide +kernel⟩
theorem k_P_64 : zCv n_P 64 y_G_measure b_G_measure 4 none n_G 0 := ⟨Or.inl (zmem 669 (by decide +kernel) rfl), zmem 351 (by decide +kernel) rfl, zmem 352 (by decide +kernel) rfl, zmem 353 (by decide +kernel) rfl, zmem 4 (by decide +kernel) rfl, ⟨by decide, by decide⟩, by decide +kernel⟩
theorem k_P_67 : zCv n_P 67 y_G_dropDeadEnds b_G_dropDeadEnds 3 (some .boolean) n_G 0 := ⟨Or.inl (zmem 670 (by decide +kernel) rfl), zmem 359 (by decide +kernel) rfl, zmem 360 (by decide +kernel) rfl, zmem 361 (by decide +kernel) rfl, zmem 4 (by decide +kernel) rfl, ⟨by decide, by decide⟩, by decide +kernel⟩
theorem k_R_94 : zCs n_R 94 y_R_out b_R_out 2 (some .boolean) [] 2 := ⟨Or.inl (zmem 817 (by decide +kernel) rfl), zmem 818 (by decide +kernel) rfl, zmem 819 (by decide +kernel) rfl, zmem 8 (by decide +kernel) rfl, ⟨by decide, by decide⟩, by decide +kernel⟩
theorem k_R_101 : zCv n_R 101 y_R_throwing b_R_throwing 3 (some .boolean) n_R 2 := ⟨Or.inl (zmem 820 (by decide +kernel) rfl), zmem 822 (by decide +kernel) rfl, zmemS 20 (by decide +kernel) rfl, zmem 823 (by decide +kernel) rfl, zmem 8 (by decide +kernel) rfl, ⟨by decide, by decide⟩, by decide +kernel⟩
theorem k_R_105 : zCv n_R 105 y_R_change b_R_change 1 none n_R 0 := ⟨Or.inl (zmem 824 (by decide +kernel) rfl), zmem 826 (by decide +kernel) rfl, zmemS 21 (by decide +kernel) rfl, zmem 827 (by decide +kernel) rfl, zmem 8 (by decide +kernel) rfl, ⟨by decide, by decide⟩, by decide +kernel⟩
theorem k_R_108 : zCv n_R 108 y_R_isNoState b_R_isNoState 3 (some .boolean) n_R 2 := ⟨Or.inl (zmem 836 (by decide +kernel) rfl), zmem 838 (by decide +kernel) rfl, zmemS 22 (by decide +kernel) rfl, zmem 839 (by decide +kernel) rfl, zmem 8 (by decide +kernel) rfl, ⟨by decide, by decide⟩, by decide +kernel⟩
theorem k_R_111 : zCv n_R 111 y_R_takesPart b_R_takesPart 3 (some .boolean) n_R 2 := ⟨Or.inl (zmem 856 (by decide +kernel) rfl), zmem 858 (by decide +kernel) rfl, zmemS 24 (by decide +kernel) rfl, zmem 859 (by decide +kernel) rfl, zmem 8 (by decide +kernel) rfl, ⟨by decide, by decide⟩, by decide +kernel⟩
theorem k_R_114 : zCs n_R 114 y_R_digit b_R_digit 4 (some .int) [] 2 := ⟨Or.inl (zmem 868 (by decide +kernel) rfl), zmem 869 (by decide +kernel) rfl, zmem 870 (by decide +kernel) rfl, zmem 8 (by decide +kernel) rfl, ⟨by decide, by decide⟩, by decide +kernel⟩
theorem k_R_118 : zCv n_R 118 y_R_has b_R_has 5 (some .boolean) n_R 2 := ⟨Or.inl (zmem 875 (by decide +kernel) rfl), zmem 877 (by decide +kernel) rfl, zmemS 28 (by decide +kernel) rfl, zmem 878 (by decide +kernel) rfl, zmem 8 (by decide +kernel) rfl, ⟨by decide, by decide⟩, by decide +kernel⟩
theorem k_R_121 : zCv n_R 121 y_R_placeOf b_R_placeOf 4 (some .int) n_R 2 := ⟨Or.inl (zmem 864 (by decide +kernel) rfl), zmem 866 (by decide +kernel) rfl, zmemS 26 (by decide +kernel) rfl, zmem 867 (by decide +kernel) rfl, zmem 8 (by decide +kernel) rfl, ⟨by decide, by decide⟩, by decide +kernel⟩
theorem k_R_124 : zCv n_R 124 y_R_after b_R_after 12 (some .int) n_R 3 := ⟨Or.inl (zmem 871 (by decide +kernel) rfl), zmem 873 (by decide +kernel) rfl, zmemS 27 (by decide +kernel) rfl, zmem 874 (by decide +kernel) rfl, zmem 8 (by decide +kernel) rfl, ⟨by decide, by decide⟩, by decide +kernel⟩
theorem k_R_128 : zCv n_R 128 y_R_takesOut b_R_takesOut 7 (some .boolean) n_R 1 := ⟨Or.inl (zmem 883 (by decide +kernel) rfl), zmem 885 (by decide +kernel) rfl, zmemS 30 (by decide +kernel) rfl, zmem 886 (by decide +kernel) rfl, zmem 8 (by decide +kernel) rfl, ⟨by decide, by decide⟩, by decide +kernel⟩
theorem k_R_135 : zCv n_R 135 y_R_good b_R_good 5 (some .int) n_R 3 := ⟨Or.inl (zmem 895 (by decide +kernel) rfl), zmem 897 (by decide +kernel) rfl, zmemS 33 (by decide +kernel) rfl, zmem 898 (by decide +kernel) rfl, zmem 8 (by decide +kernel) rfl, ⟨by decide, by decide⟩, by decide +kernel⟩
theorem k_R_138 : zCv n_R 138 y_R_isModel b_R_isModel 5 (some .boolean) n_R 1 := ⟨Or.inl (zmem 852 (by decide +kernel) rfl), zmem 854 (by decide +kernel) rfl, zmemS 23 (by decide +kernel) rfl, zmem 855 (by decide +kernel) rfl, zmem 8 (by decide +kernel) rfl, ⟨by decide, by decide⟩, by decide +kernel⟩
theorem k_R_141 : zCv n_R 141 y_R_explore b_R_explore 8 (some .boolean) n_R 2 := ⟨Or.inl (zmem 860 (by decide +kernel) rfl), zmem 862 (by decide +kernel) rfl, zmemS 25 (by decide +kernel) rfl, zmem 863 (by decide +kernel) rfl, zmem 8 (by decide +kernel) rfl, ⟨by decide, by decide⟩, by decide +kernel⟩
theorem k_R_144 : zCv n_R 144 y_R_settle b_R_settle 3 none n_R 1 := ⟨Or.inl (zmem 879 (by decide +kernel) rfl), zmem 881 (by decide +kernel) rfl, zmemS 29 (by decide +kernel) rfl, zmem 882 (by decide +kernel) rfl, zmem 8 (by decide +kernel) rfl, ⟨by decide, by decide⟩, by decide +kernel⟩
theorem k_R_148 : zCv n_R 148 y_R_keep b_R_keep 2 none n_R 1 := ⟨Or.inl (zmem 887 (by decide +kernel) rfl), zmem 889 (by decide +kernel) rfl, zmemS 31 (by decide +kernel) rfl, zmem 890 (by decide +kernel) rfl, zmem 8 (by decide +kernel) rfl, ⟨by decide, by decide⟩, by decide +kernel⟩
theorem k_R_154 : zCv n_R 154 y_R_search b_R_search 8 (some .int) n_R 2 := ⟨Or.inl (zmem 891 (by decide +kernel) rfl), zmem 893 (by decide +kernel) rfl, zmemS 32 (by decide +kernel) rfl, zmem 894 (by decide +kernel) rfl, zmem 8 (by decide +kernel) rfl, ⟨by decide, by decide⟩, by decide +kernel⟩
theorem k_R_161 : zCv n_R 161 y_R_refuses b_R_refuses 3 (some .boolean) n_R 2 := ⟨Or.inl (zmem 903 (by decide +kernel) rfl), zmem 905 (by decide +kernel) rfl, zmemS 34 (by decide +kernel) rfl, zmem 906 (by decide +kernel) rfl, zmem 8 (by decide +kernel) rfl, ⟨by decide, by decide⟩, by decide +kernel⟩
theorem k_R_167 : zCv n_R 167 y_R_couple b_R_couple 4 (some .int) n_R 2 := ⟨Or.inl (zmem 939 (by decide +kernel) rfl), zmem 941 (by decide +kernel) rfl, zmemS 37 (by decide +kernel) rfl, zmem 942 (by decide +kernel) rfl, zmem 8 (by decide +kernel) rfl, ⟨by decide, by decide⟩, by decide +kernel⟩
theorem k_R_170 : zCv n_R 170 y_R_isRule b_R_isRule 2 (some .boolean) n_R 1 := ⟨Or.inl (zmem 931 (by decide +kernel) rfl), zmem 933 (by decide +kernel) rfl, zmemS 35 (by decide +kernel) rfl, zmem 934 (by decide +kernel) rfl, zmem 8 (by decide +kernel) rfl, ⟨by decide, by decide⟩, by decide +kernel⟩
theorem k_R_173 : zCv n_R 173 y_R_isThere b_R_isThere 3 (some .boolean) n_R 2 := ⟨Or.inl (zmem 935 (by decide +kernel) rfl), zmem 937 (by decide +kernel) rfl, zmemS 36 (by decide +kernel) rfl, zmem 938 (by decide +kernel) rfl, zmem 8 (by decide +kernel) rfl, ⟨by decide, by decide⟩, by decide +kernel⟩
theorem k_R_176 : zCv n_R 176 y_R_comesHome b_R_comesHome 9 (some .boolean) n_R 1 := ⟨Or.inl (zmem 943 (by decide +kernel) rfl), zmem 945 (by decide +kernel) rfl, zmemS 38 (by decide +kernel) rfl, zmem 946 (by decide +kernel) rfl, zmem 8 (by decide +kernel) rfl, ⟨by decide, by decide⟩, by decide +kernel⟩
theorem k_S_27 : zCv n_S 27 y_S_target b_S_target 3 (some .int) n_S 2 := ⟨Or.inl (zmem 568 (by decide +kernel) rfl), zmem 569 (by decide +kernel) rfl, zmem 570 (by decide +kernel) rfl, zmem 571 (by decide +kernel) rfl, zmem 7 (by decide +kernel) rfl, ⟨by decide, by decide⟩, by decide +kernel⟩
theorem k_S_31 : zCs n_S 31 y_C_hasBit b_C_hasBit 2 (some .boolean) [] 2 := ⟨Or.inr ⟨n_C, zmem 572 (by decide +kernel) rfl⟩, zmem 265 (by decide +kernel) rfl, zmem 266 (by decide +kernel) rfl, zmem 1 (by decide +kernel) rfl, ⟨by decide, by decide⟩, by decide +kernel⟩
theorem k_Y_29 : zCv n_Y 29 y_Y_explore b_Y_explore 3 (some .boolean) n_Y 1 := ⟨Or.inl (zmem 275 (by decide +kernel) rfl), zmem 277 (by decide +kernel) rfl, zmemS 0 (by decide +kernel) rfl, zmem 278 (by decide +kernel) rfl, zmem 5 (by decide +kernel) rfl, ⟨by decide, by decide⟩, by decide +kernel⟩
theorem k_Y_33 : zCv n_Y 33 y_Y_keepGood b_Y_keepGood 3 none n_Y 0 := ⟨Or.inl (zmem 334 (by decide +kernel) rfl), zmem 336 (by decide +kernel) rfl, zmemS 3 (by decide +kernel) rfl, zmem 337 (by decide +kernel) rfl, zmem 5 (by decide +kernel) rfl, ⟨by decide, by decide⟩, by decide +kernel⟩
theorem k_Y_47 : zCv n_Y 47 y_G_countKept b_G_countKept 3 (some .int) n_G 0 := ⟨Or.inl (zmem 362 (by decide +kernel) rfl), zmem 363 (by decide +kernel) rfl, zmem 364 (by decide +kernel) rfl, zmem 365 (by decide +kernel) rfl, zmem 4 (by decide +kernel) rfl, ⟨by decide, by decide⟩, by decide +kernel⟩
theorem k_Y_54 : zCv n_Y 54 y_Y_writeWord b_Y_writeWord 4 none n_Y 1 := ⟨Or.inl (zmem 366 (by decide +kernel) rfl), zmem 368 (by decide +kernel) rfl, zmemS 7 (by decide +kernel) rfl, zmem 369 (by decide +kernel) rfl, zmem 5 (by decide +kernel) rfl, ⟨by decide, by decide⟩, by decide +kernel⟩
theorem k_Y_58 : zCv n_Y 58 y_Y_writeStates b_Y_writeStates 3 none n_Y 1 := ⟨Or.inl (zmem 374 (by decide +kernel) rfl), zmem 376 (by decide +kernel) rfl, zmemS 9 (by decide +kernel) rfl, zmem 377 (by decide +kernel) rfl, zmem 5 (by decide +kernel) rfl, ⟨by decide, by decide⟩, by decide +kernel⟩
theorem k_Y_61 : zCv n_Y 61 y_A_firstCode b_A_firstCode 4 (some .int) n_A 1 := ⟨Or.inl (zmem 279 (by decide +kernel) rfl), zmem 280 (by decide +kernel) rfl, zmem 281 (by decide +kernel) rfl, zmem 282 (by decide +kernel) rfl, zmem 2 (by decide +kernel) rfl, ⟨by decide, by decide⟩, by decide +kernel⟩
theorem k_Y_67 : zCv n_Y 67 y_G_begin b_G_begin 3 none n_G 1 := ⟨Or.inl (zmem 286 (by decide +kernel) rfl), zmem 287 (by decide +kernel) rfl, zmem 288 (by decide +kernel) rfl, zmem 289 (by decide +kernel) rfl, zmem 4 (by decide +kernel) rfl, ⟨by decide, by decide⟩, by decide +kernel⟩
theorem k_Y_71 : zCv n_Y 71 y_Y_exploreFrom b_Y_exploreFrom 6 (some .boolean) n_Y 2 := ⟨Or.inl (zmem 294 (by decide +kernel) rfl), zmem 296 (by decide +kernel) rfl, zmemS 2 (by decide +kernel) rfl, zmem 297 (by decide +kernel) rfl, zmem 5 (by decide +kernel) rfl, ⟨by decide, by decide⟩, by decide +kernel⟩
theorem k_Y_82 : zCv n_Y 82 y_A_isMarked b_A_isMarked 4 (some .boolean) n_A 2 := ⟨Or.inl (zmem 298 (by decide +kernel) rfl), zmem 299 (by decide +kernel) rfl, zmem 300 (by decide +kernel) rfl, zmem 301 (by decide +kernel) rfl, zmem 2 (by decide +kernel) rfl, ⟨by decide, by decide⟩, by decide +kernel⟩
theorem k_Y_88 : zCv n_Y 88 y_A_isForbidden b_A_isForbidden 4 (some .boolean) n_A 2 := ⟨Or.inl (zmem 305 (by decide +kernel) rfl), zmem 306 (by decide +kernel) rfl, zmem 307 (by decide +kernel) rfl, zmem 308 (by decide +kernel) rfl, zmem 2 (by decide +kernel) rfl, ⟨by decide, by decide⟩, by decide +kernel⟩
theorem k_Y_91 : zCv n_Y 91 y_A_eventsOfPlants b_A_eventsOfPlants 5 (some .int) n_A 1 := ⟨Or.inl (zmem 309 (by decide +kernel) rfl), zmem 310 (by decide +kernel) rfl, zmem 311 (by decide +kernel) rfl, zmem 312 (by decide +kernel) rfl, zmem 2 (by decide +kernel) rfl, ⟨by decide, by decide⟩, by decide +kernel⟩
theorem k_Y_93 : zCv n_Y 93 y_A_eventsNotStopped b_A_eventsNotStopped 5 (some .int) n_A 2 := ⟨Or.inl (zmem 317 (by decide +kernel) rfl), zmem 318 (by decide +kernel) rfl, zmem 319 (by decide +kernel) rfl, zmem 320 (by decide +kernel) rfl, zmem 2 (by decide +kernel) rfl, ⟨by decide, by decide⟩, by decide +kernel⟩
theorem k_Y_97 : zCs n_Y 97 y_C_hasBit b_C_hasBit 2 (some .boolean) [] 2 := ⟨Or.inr ⟨n_C, zmem 321 (by decide +kernel) rfl⟩, zmem 265 (by decide +kernel) rfl, zmem 266 (by decide +kernel) rfl, zmem 1 (by decide +kernel) rfl, ⟨by decide, by decide⟩, by decide +kernel⟩
theorem k_Y_100 : zCv n_Y 100 y_A_step b_A_step 6 (some .int) n_A 3 := ⟨Or.inl (zmem 322 (by decide +kernel) rfl), zmem 323 (by decide +kernel) rfl, zmem 324 (by decide +kernel) rfl, zmem 325 (by decide +kernel) rfl, zmem 2 (by decide +kernel) rfl, ⟨by decide, by decide⟩, by decide +kernel⟩
theorem k_Y_104 : zCv n_Y 104 y_G_link b_G_link 6 (some .int) n_G 3 := ⟨Or.inl (zmem 330 (by decide +kernel) rfl), zmem 331 (by decide +kernel) rfl, zmem 332 (by decide +kernel) rfl, zmem 333 (by decide +kernel) rfl, zmem 4 (by decide +kernel) rfl, ⟨by decide, by decide⟩, by decide +kernel⟩
theorem k_Y_107 : zCv n_Y 107 y_Y_dropUnruly b_Y_dropUnruly 3 (some .boolean) n_Y 0 := ⟨Or.inl (zmem 338 (by decide +kernel) rfl), zmem 340 (by decide +kernel) rfl, zmemS 4 (by decide +kernel) rfl, zmem 341 (by decide +kernel) rfl, zmem 5 (by decide +kernel) rfl, ⟨by decide, by decide⟩, by decide +kernel⟩
theorem k_Y_111 : zCv n_Y 111 y_G_measure b_G_measure 4 none n_G 0 := ⟨Or.inl (zmem 350 (by decide +kernel) rfl), zmem 351 (by decide +kernel) rfl, zmem 352 (by decide +kernel) rfl, zmem 353 (by decide +kernel) rfl, zmem 4 (by decide +kernel) rfl, ⟨by decide, by decide⟩, by decide +kernel⟩
theorem k_Y_114 : zCv n_Y 114 y_G_dropDeadEnds b_G_dropDeadEnds 3 (some .boolean) n_G 0 := ⟨Or.inl (zmem 358 (by decide +kernel) rfl), zmem 359 (by decide +kernel) rfl, zmem 360 (by decide +kernel) rfl, zmem 361 (by decide +kernel) rfl, zmem 4 (by decide +kernel) rfl, ⟨by decide, by decide⟩, by decide +kernel⟩
theorem k_Y_117 : zCv n_Y 117 y_Y_isUnruly b_Y_isUnruly 4 (some .boolean) n_Y 1 := ⟨Or.inl (zmem 342 (by decide +kernel) rfl), zmem 344 (by decide +kernel) rfl, zmemS 5 (by decide +kernel) rfl, zmem 345 (by decide +kernel) rfl, zmem 5 (by decide +kernel) rfl, ⟨by decide, by decide⟩, by decide +kernel⟩
theorem k_Y_123 : zCv n_Y 123 y_G_keptTarget b_G_keptTarget 4 (some .int) n_G 2 := ⟨Or.inl (zmem 346 (by decide +kernel) rfl), zmem 347 (by decide +kernel) rfl, zmem 348 (by decide +kernel) rfl, zmem 349 (by decide +kernel) rfl, zmem 4 (by decide +kernel) rfl, ⟨by decide, by decide⟩, by decide +kernel⟩
theorem k_Y_126 : zCv n_Y 126 y_Y_firstLost b_Y_firstLost 2 (some .int) n_Y 0 := ⟨Or.inl (zmem 370 (by decide +kernel) rfl), zmem 372 (by decide +kernel) rfl, zmemS 8 (by decide +kernel) rfl, zmem 373 (by decide +kernel) rfl, zmem 5 (by decide +kernel) rfl, ⟨by decide, by decide⟩, by decide +kernel⟩
theorem k_Y_139 : zCv n_Y 139 y_Y_stateFor b_Y_stateFor 3 (some .int) n_Y 2 := ⟨Or.inl (zmem 378 (by decide +kernel) rfl), zmem 380 (by decide +kernel) rfl, zmemS 10 (by decide +kernel) rfl, zmem 381 (by decide +kernel) rfl, zmem 5 (by decide +kernel) rfl, ⟨by decide, by decide⟩, by decide +kernel⟩
theorem k_Y_143 : zCv n_Y 143 y_Y_writeState b_Y_writeState 6 none n_Y 2 := ⟨Or.inl (zmem 382 (by decide +kernel) rfl), zmem 384 (by decide +kernel) rfl, zmemS 11 (by decide +kernel) rfl, zmem 385 (by decide +kernel) rfl, zmem 5 (by decide +kernel) rfl, ⟨by decide, by decide⟩, by decide +kernel⟩
end
section
/-! bits of a number of 32 bits -/
def zbt (x : Int) (i : Nat) : Bool := (Int32.ofInt x).toBitVec.getLsbD i
def zB (b : Bool) : Int := if b = true then 1 else 0
theorem zB_or (b : Bool) : zB b = 0 ∨ zB b = 1 := by cases b <;> simp [zB]
theorem zB_r (b : Bool) : 0 ≤ zB b ∧ zB b ≤ 1 := by cases b <;> simp [zB]
theorem zB_one {b : Bool} : zB b = 1 ↔ b = true := by cases b <;> simp [zB]
theorem zB_zero {b : Bool} : zB b = 0 ↔ b = false := by cases b <;> simp [zB]
theorem zR_32 (x : Int32) : -2147483648 ≤ x.toInt ∧ x.toInt ≤ 2147483647 := by
  have h1 := x.le_toInt
  have h2 := x.toInt_lt
  omega
theorem zand_r (x y : Int) : -2147483648 ≤ zand x y ∧ zand x y ≤ 2147483647 := zR_32 _
theorem zor_r (x y : Int) : -2147483648 ≤ zor x y ∧ zor x y ≤ 2147483647 := zR_32 _
theorem zxor_r (x y : Int) : -2147483648 ≤ zxor x y ∧ zxor x y ≤ 2147483647 := zR_32 _
theorem zshl_r (x y : Int) : -2147483648 ≤ zshl x y ∧ zshl x y ≤ 2147483647 := zR_32 _
theorem zshr_r (x y : Int) : -2147483648 ≤ zshr x y ∧ zshr x y ≤ 2147483647 := zR_32 _
theorem zbt_and (x y : Int) (i : Nat) : zbt (zand x y) i = (zbt x i && zbt y i) := by
  simp [zbt, zand, Int32.ofInt_toInt]
theorem zbt_or (x y : Int) (i : Nat) : zbt (zor x y) i = (zbt x i || zbt y i) := by
  simp [zbt, zor, Int32.ofInt_toInt]
theorem zbt_not (x : Int) {i : Nat} (hi : i < 32) : zbt (zxor x (-1)) i = !zbt x i := by
  have h : (Int32.ofInt (-1)).toBitVec = BitVec.allOnes 32 := by decide
  simp only [zbt, zxor, Int32.ofInt_toInt, Int32.toBitVec_xor, h, BitVec.getLsbD_xor, BitVec.getLsbD_allOnes]
  simp [hi]
theorem zbt_nat (n i : Nat) : zbt (n : Int) i = (decide (i < 32) && n.testBit i) := by
  have h : (Int32.ofInt (n : Int)).toBitVec = BitVec.ofNat 32 n := by
    show BitVec.ofInt 32 (n : Int) = _
    exact BitVec.ofInt_natCast 32 n
  rw [zbt, h, BitVec.getLsbD_ofNat]
theorem zbt_zero (i : Nat) : zbt 0 i = false := by
  have := zbt_nat 0 i
  simpa using this
theorem zshm {i : Nat} (hi : i < 32) : (Int32.ofInt (i : Int) &&& 31) = Int32.ofInt (i : Int) := by
  have : ∀ i : Nat, i < 32 → (Int32.ofInt (i : Int) &&& 31) = Int32.ofInt (i : Int) := by decide
  exact this i hi
theorem zshn {i : Nat} (hi : i < 32) : (Int32.ofInt (i : Int)).toBitVec.toNat % 32 = i := by
  have : ∀ i : Nat, i < 32 → (Int32.ofInt (i : Int)).toBitVec.toNat % 32 = i := by decide
  exact this i hi
theorem zbt_shl (x : Int) {i j : Nat} (hi : i < 32) (hj : j < 32) : zbt (zshl x (i : Int)) j = (decide (i ≤ j) && zbt x (j - i)) := by
  simp only [zbt, zshl, Int32.ofInt_toInt, zshm hi, Int32.toBitVec_shiftLeft]
  rw [BitVec.shiftLeft_eq', show ((Int32.ofInt (i : Int)).toBitVec.smod 32).toNat = i from (by
    have : ∀ i : Nat, i < 32 → ((Int32.ofInt (i : Int)).toBitVec.smod 32).toNat = i := by decide
    exact this i hi), BitVec.getLsbD_shiftLeft]
  by_cases h : i ≤ j
  · have h1 : ¬ j < i := by omega
    simp only [hj, h, h1, decide_true, decide_false, Bool.not_false, Bool.true_and]
  · have h1 : j < i := by omega
    simp only [hj, h, h1, decide_true, decide_false, Bool.not_true, Bool.and_false, Bool.false_and]
theorem zshr_eq (x : Int) (hx : -2147483648 ≤ x ∧ x ≤ 2147483647) {i : Nat} (hi : i < 32) : zshr x (i : Int) = x / 2 ^ i := by
  have h1 : (Int32.ofInt x).toInt = x := zto hx
  have h2 : ((Int32.ofInt (i : Int)).toBitVec.smod 32).toNat = i := by
    have : ∀ i : Nat, i < 32 → ((Int32.ofInt (i : Int)).toBitVec.smod 32).toNat = i := by decide
    exact this i hi
  have h3 : (Int32.ofInt x >>> Int32.ofInt (i : Int)).toInt = (Int32.ofInt x).toBitVec.toInt >>> i := by
    show (Int32.ofInt x >>> Int32.ofInt (i : Int)).toBitVec.toInt = _
    rw [Int32.toBitVec_shiftRight, BitVec.sshiftRight', BitVec.toInt_sshiftRight, h2]
  unfold zshr
  rw [zshm hi, h3, Int32.toInt_toBitVec, h1, Int.shiftRight_eq_div_pow]
  norm_cast
theorem zbt_eq (x : Int) (hx : -2147483648 ≤ x ∧ x ≤ 2147483647) {i : Nat} (hi : i < 32) : zand (zshr x (i : Int)) 1 = zB (zbt x i) := by
  have h2 : ((Int32.ofInt (i : Int)).toBitVec.smod 32).toNat = i := by
    have : ∀ i : Nat, i < 32 → ((Int32.ofInt (i : Int)).toBitVec.smod 32).toNat = i := by decide
    exact this i hi
  have key : (Int32.ofInt x >>> Int32.ofInt (i : Int)) &&& Int32.ofInt 1 = Int32.ofInt (zB (zbt x i)) := by
    apply Int32.toBitVec.inj
    rw [Int32.toBitVec_and, Int32.toBitVec_shiftRight, BitVec.sshiftRight', h2]
    apply BitVec.eq_of_getLsbD_eq
    intro j hj
    rw [BitVec.getLsbD_and, BitVec.getLsbD_sshiftRight]
    have e1 : (Int32.ofInt 1).toBitVec.getLsbD j = decide (j = 0) := by
      have h9 := zbt_nat 1 j
      have h8 : (Int32.ofInt 1).toBitVec.getLsbD j = (decide (j < 32) && Nat.testBit 1 j) := h9
      rw [h8]
      cases j with
      | zero => rfl
      | succ j => simp [Nat.testBit_succ]
    rw [e1]
    by_cases h0 : j = 0
    · subst h0
      cases hb : zbt x i
      · have : (Int32.ofInt (zB false)).toBitVec.getLsbD 0 = false := by decide
        rw [this]
        simp only [zbt] at hb
        rw [if_pos (show i + 0 < 32 by omega), Nat.add_zero, hb]
        rfl
      · have : (Int32.ofInt (zB true)).toBitVec.getLsbD 0 = true := by decide
        rw [this]
        simp only [zbt] at hb
        rw [if_pos (show i + 0 < 32 by omega), Nat.add_zero, hb]
        rfl
    · cases hb : zbt x i
      · have : (Int32.ofInt (zB false)).toBitVec = 0#32 := by decide
        rw [this]
        simp [h0]
      · have : (Int32.ofInt (zB true)).toBitVec = 1#32 := by decide
        rw [this]
        simp [h0]
  unfold zand
  rw [show Int32.ofInt (zshr x (i : Int)) = Int32.ofInt x >>> Int32.ofInt (i : Int) from by unfold zshr; rw [zshm hi, Int32.ofInt_toInt], key]
  exact zto (by have := zB_r (zbt x i); omega)
/-! digits of a code, three bits each -/
def dig (c i : Nat) : Nat := c / 8 ^ i % 8
def cod (f : Nat → Nat) : Nat := f 0 + 8 * f 1 + 64 * f 2 + 512 * f 3
theorem dig_lt (c i : Nat) : dig c i < 8 := Nat.mod_lt _ (by decide)
theorem cod_lt {f : Nat → Nat} (h : ∀ i, i < 4 → f i < 8) : cod f < 4096 := by
  have h0 := h 0 (by decide)
  have h1 := h 1 (by decide)
  have h2 := h 2 (by decide)
  have h3 := h 3 (by decide)
  unfold cod
  omega
theorem dig_cod {f : Nat → Nat} (h : ∀ i, i < 4 → f i < 8) {i : Nat} (hi : i < 4) : dig (cod f) i = f i := by
  have h0 := h 0 (by decide)
  have h1 := h 1 (by decide)
  have h2 := h 2 (by decide)
  have h3 := h 3 (by decide)
  unfold dig cod
  rcases (show i = 0 ∨ i = 1 ∨ i = 2 ∨ i = 3 by omega) with rfl | rfl | rfl | rfl
  · simp only [Nat.pow_zero, Nat.div_one]; omega
  · simp only [show 8 ^ 1 = 8 from rfl]; omega
  · simp only [show 8 ^ 2 = 64 from rfl]; omega
  · simp only [show 8 ^ 3 = 512 from rfl]; omega
theorem cod_dig {c : Nat} (h : c < 4096) : cod (dig c) = c := by
  simp only [cod, dig, Nat.pow_zero, Nat.div_one, show 8 ^ 1 = 8 from rfl, show 8 ^ 2 = 64 from rfl, show 8 ^ 3 = 512 from rfl]
  omega
theorem cod_congr {f g : Nat → Nat} (h : ∀ i, i < 4 → f i = g i) : cod f = cod g := by
  simp only [cod, h 0 (by decide), h 1 (by decide), h 2 (by decide), h 3 (by decide)]
theorem dig_ext {c d : Nat} (hc : c < 4096) (hd : d < 4096) (h : ∀ i, i < 4 → dig c i = dig d i) : c = d := by
  rw [← cod_dig hc, ← cod_dig hd]
  exact cod_congr h
theorem zand_nat {a b : Nat} (ha : a < 2147483648) (hb : b < 2147483648) : zand (a : Int) (b : Int) = ((a &&& b : Nat) : Int) := by
  have hl : a &&& b < 2147483648 := Nat.lt_of_le_of_lt Nat.and_le_left ha
  have : Int32.ofInt (a : Int) &&& Int32.ofInt (b : Int) = Int32.ofInt ((a &&& b : Nat) : Int) := by
    apply Int32.toBitVec.inj
    rw [Int32.toBitVec_and]
    show BitVec.ofInt 32 (a : Int) &&& BitVec.ofInt 32 (b : Int) = BitVec.ofInt 32 ((a &&& b : Nat) : Int)
    rw [BitVec.ofInt_natCast, BitVec.ofInt_natCast, BitVec.ofInt_natCast]
    apply BitVec.eq_of_getLsbD_eq
    intro j hj
    simp [hj, Nat.testBit_and]
  rw [zand, this]
  exact zto (by omega)
theorem zstateIn {c i : Nat} (hc : c < 4096) (hi : i < 4) : zand (zshr (c : Int) ((i : Int) * 3)) 7 = (dig c i : Int) := by
  have h1 : ((i : Int) * 3) = ((i * 3 : Nat) : Int) := by omega
  rw [h1, zshr_eq (c : Int) (by omega) (show i * 3 < 32 by omega)]
  have h2 : (c : Int) / 2 ^ (i * 3) = ((c / 8 ^ i : Nat) : Int) := by
    rcases (show i = 0 ∨ i = 1 ∨ i = 2 ∨ i = 3 by omega) with rfl | rfl | rfl | rfl <;> simp <;> omega
  have h3 : c / 8 ^ i ≤ c := Nat.div_le_self _ _
  rw [h2, show (7 : Int) = ((7 : Nat) : Int) from rfl, zand_nat (by omega) (by omega)]
  rw [show (7 : Nat) = 2 ^ 3 - 1 from rfl, Nat.and_two_pow_sub_one_eq_mod]
  rfl
end
section
theorem zext {x y : Int} (hx : -2147483648 ≤ x ∧ x ≤ 2147483647) (hy : -2147483648 ≤ y ∧ y ≤ 2147483647) (h : ∀ j, j < 32 → zbt x j = zbt y j) : x = y := by
  rw [← zinj hx hy]
  apply Int32.toBitVec.inj
  apply BitVec.eq_of_getLsbD_eq
  intro j hj
  exact h j hj
theorem dig_bit (c q k : Nat) : (dig c q).testBit k = (decide (k < 3) && c.testBit (3 * q + k)) := by
  have h : dig c q = c / 2 ^ (3 * q) % 2 ^ 3 := by
    unfold dig
    rw [Nat.pow_mul]
  rw [h, Nat.testBit_mod_two_pow, Nat.testBit_div_two_pow, Nat.add_comm k (3 * q)]
theorem bit_dig (c j : Nat) : c.testBit j = (dig c (j / 3)).testBit (j % 3) := by
  rw [dig_bit, show 3 * (j / 3) + j % 3 = j by omega]
  have : j % 3 < 3 := Nat.mod_lt _ (by decide)
  simp [this]
theorem bit_small {s k : Nat} (h : s < 8) (hk : 3 ≤ k) : s.testBit k = false := by
  apply Nat.testBit_lt_two_pow
  have : 2 ^ 3 ≤ 2 ^ k := Nat.pow_le_pow_right (by decide) hk
  omega
theorem zwithState {c i s : Nat} (hc : c < 4096) (hi : i < 4) (hs : s < 8) :
    zor (zand (c : Int) (zxor (zshl 7 ((i : Int) * 3)) (-1))) (zshl (s : Int) ((i : Int) * 3)) = ((cod (fun j => if j = i then s else dig c j) : Nat) : Int) := by
  have hf : ∀ j, j < 4 → (fun j => if j = i then s else dig c j) j < 8 := by
    intro j _
    by_cases h : j = i
    · simp [h, hs]
    · simp [h, dig_lt]
  have hlt := cod_lt hf
  have h3 : ((i : Int) * 3) = ((i * 3 : Nat) : Int) := by omega
  have h7 : (7 : Int) = ((7 : Nat) : Int) := rfl
  apply zext (zor_r _ _) (by omega)
  intro j hj
  rw [zbt_or, zbt_and, zbt_not _ hj, h3, zbt_shl _ (show i * 3 < 32 by omega) hj, zbt_shl _ (show i * 3 < 32 by omega) hj, h7, zbt_nat, zbt_nat, zbt_nat, zbt_nat, bit_dig (cod _) j, bit_dig c j]
  have hq : j / 3 * 3 + j % 3 = j := by omega
  by_cases h4 : j / 3 < 4
  · rw [dig_cod hf h4]
    have hm : j % 3 < 3 := Nat.mod_lt _ (by decide)
    by_cases h1 : j / 3 = i
    · have e1 : i * 3 ≤ j := by omega
      have e2 : j - i * 3 = j % 3 := by omega
      have e3 : Nat.testBit 7 (j % 3) = true := by
        rcases (show j % 3 = 0 ∨ j % 3 = 1 ∨ j % 3 = 2 by omega) with h | h | h <;> rw [h] <;> rfl
      have e4 : j % 3 < 32 := by omega
      simp [hj, h1, e1, e2, e3, e4]
    · by_cases h2 : i * 3 ≤ j
      · have e5 : 3 ≤ j - i * 3 := by omega
        simp [hj, h1, h2, bit_small (show 7 < 8 by decide) e5, bit_small hs e5]
      · simp [hj, h1, h2]
  · have e6 : ∀ x : Nat, x < 4096 → dig x (j / 3) = 0 := by
      intro x hx
      unfold dig
      have : 8 ^ 4 ≤ 8 ^ (j / 3) := Nat.pow_le_pow_right (by decide) (by omega)
      rw [Nat.div_eq_of_lt (by omega)]
    have e5 : 3 ≤ j - i * 3 := by omega
    rw [e6 _ hlt, e6 _ hc]
    simp [hj, bit_small (show 7 < 8 by decide) e5, bit_small hs e5]
/-! the automata as a mathematical value -/
abbrev aT : Type := Nat × (Nat → Nat) × (Nat → Bool) × (Nat → Int) × (Nat → Nat → Bool) × (Nat → Nat → Bool) × (Nat → Nat → Nat → Int) × (Nat → Bool) × (Nat → Bool)
def aN (a : aT) : Nat := a.1
def aS (a : aT) : Nat → Nat := a.2.1
def aP (a : aT) : Nat → Bool := a.2.2.1
def aI (a : aT) : Nat → Int := a.2.2.2.1
def aM (a : aT) : Nat → Nat → Bool := a.2.2.2.2.1
def aF (a : aT) : Nat → Nat → Bool := a.2.2.2.2.2.1
def aE (a : aT) : Nat → Nat → Nat → Int := a.2.2.2.2.2.2.1
def aD (a : aT) : Nat → Bool := a.2.2.2.2.2.2.2.1
def aC (a : aT) : Nat → Bool := a.2.2.2.2.2.2.2.2
/-- the automaton i has an edge with e -/
def aH (a : aT) (i e : Nat) : Bool := (List.range 6).any (fun s => decide (0 ≤ aE a i s e))
def aOk (a : aT) : Prop := aN a ≤ 4 ∧ ∀ i, i < aN a → (1 ≤ aS a i ∧ aS a i ≤ 6) ∧ (-1 ≤ aI a i ∧ aI a i < aS a i) ∧ ∀ s e, s < 6 → e < 12 → (-1 ≤ aE a i s e ∧ aE a i s e < aS a i) ∧ (aS a i ≤ s → aE a i s e = -1) ∧ (0 ≤ aE a i s e → aD a e = true)
/-- a number of 32 bits whose bits below n are f's -/
def zmask (n : Nat) (x : Int) (f : Nat → Bool) : Prop := (-2147483648 ≤ x ∧ x ≤ 2147483647) ∧ ∀ j, j < n → zbt x j = f j
/-- the class's cells hold the automata a -/
def cAut (a : aT) (i : Nat) (μ : zM) : Prop := μ (3 + 3 * i) 0 = aS a i ∧ μ (3 + 3 * i) 1 = (if aP a i = true then 0 else 1) ∧ μ (3 + 3 * i) 2 = aI a i ∧ zmask 6 (μ (3 + 3 * i) 3) (aM a i) ∧ zmask 6 (μ (3 + 3 * i) 4) (aF a i) ∧ zmask 12 (μ (3 + 3 * i) 5) (aH a i) ∧
  ∀ s, s < 6 → zmask 12 (μ (4 + 3 * i) s) (fun e => decide (0 ≤ aE a i s e)) ∧ ∀ e, e < 12 → 0 ≤ aE a i s e → μ (5 + 3 * i) (12 * s + e) = aE a i s e
def cRep (a : aT) (μ : zM) : Prop := μ 1 1 = aN a ∧ zmask 12 (μ 1 2) (aD a) ∧ zmask 12 (μ 1 3) (fun e => aD a e && aC a e) ∧ ∀ i, i < aN a → cAut a i μ
/-- places of the automata -/
theorem zRa {i : Nat} (h : i < 4) : zR 2 ((i : Int)).toNat = 3 + 3 * i := by
  have : ∀ i : Nat, i < 4 → zR 2 ((i : Int)).toNat = 3 + 3 * i := by decide
  exact this i h
theorem zMl {i : Nat} (h : i < 4) : 3 + 3 * i < zN := by unfold zN; omega
theorem zMl1 {i : Nat} (h : i < 4) : 4 + 3 * i < zN := by unfold zN; omega
theorem zMl2 {i : Nat} (h : i < 4) : 5 + 3 * i < zN := by unfold zN; omega
theorem zMk {i : Nat} (h : i < 4) : zK (3 + 3 * i) = .inr 1 := by
  have : ∀ i, i < 4 → zK (3 + 3 * i) = .inr 1 := by decide
  exact this i h
theorem zMk1 {i : Nat} (h : i < 4) : zK (4 + 3 * i) = .inl (0, 6) := by
  have : ∀ i, i < 4 → zK (4 + 3 * i) = .inl (0, 6) := by decide
  exact this i h
theorem zMk2 {i : Nat} (h : i < 4) : zK (5 + 3 * i) = .inl (0, 72) := by
  have : ∀ i, i < 4 → zK (5 + 3 * i) = .inl (0, 72) := by decide
  exact this i h
theorem zMr1 {i : Nat} (h : i < 4) : zR (3 + 3 * i) 6 = 4 + 3 * i := by
  have : ∀ i, i < 4 → zR (3 + 3 * i) 6 = 4 + 3 * i := by decide
  exact this i h
theorem zMr2 {i : Nat} (h : i < 4) : zR (3 + 3 * i) 7 = 5 + 3 * i := by
  have : ∀ i, i < 4 → zR (3 + 3 * i) 7 = 5 + 3 * i := by decide
  exact this i h
/-! small methods -/
set_option maxRecDepth 100000 in
theorem m_C_hasBit (l : Launch) (μ : zM) (x : Int) (i : Nat) (hx : -2147483648 ≤ x ∧ x ≤ 2147483647) (hi : i < 32) :
    zC l y_C_hasBit b_C_hasBit 2 (some .boolean) [] 0 0 0 true [zi x, zi (i : Int)] μ (zRi (fun r μ' => μ' = μ ∧ r = zB (zbt x i))) := by
  refine zC.of (own := n_C) (L := [some (zi x), some (zi (i : Int))]) (by decide) rfl (by simp [zcat]) (Nat.le_of_ble_eq_true rfl) rfl (fun Γ => ?_)
  refine zU_iload_n d_C_hasBit_0 rfl ?_
  refine zU_iload_n d_C_hasBit_1 rfl ?_
  refine zU_ishr d_C_hasBit_2 ?_
  refine zU_iconst d_C_hasBit_3 ?_
  refine zU_iand d_C_hasBit_4 ?_
  refine zU_iconst d_C_hasBit_5 ?_
  have h0 := zB_r (zbt x i)
  have h1 := zbt_eq x hx hi
  refine zU_icmp_ne 13 d_C_hasBit_6 (by decide) (by omega) (by omega) (fun h6 => ?_) (fun h6 => ?_)
  · refine zU_iconst d_C_hasBit_13 ?_
    exact zU_ireturn d_C_hasBit_14 (Or.inr ⟨rfl, by omega⟩) (by decide) (by decide) ⟨0, rfl, rfl, by omega⟩
  · refine zU_iconst d_C_hasBit_9 ?_
    refine zU_goto 14 d_C_hasBit_10 (by decide) ?_
    exact zU_ireturn d_C_hasBit_14 (Or.inr ⟨rfl, by omega⟩) (by decide) (by decide) ⟨1, rfl, rfl, by omega⟩
end
section
theorem zb1 {i j : Nat} (hi : i < 32) (hj : j < 32) : zbt (zshl 1 (i : Int)) j = decide (j = i) := by
  rw [zbt_shl _ hi hj, show (1 : Int) = ((1 : Nat) : Int) from rfl, zbt_nat]
  by_cases h : j = i
  · subst h
    simp
  · by_cases h2 : i ≤ j
    · obtain ⟨k, hk⟩ : ∃ k, j - i = k + 1 := ⟨j - i - 1, by omega⟩
      rw [hk]
      simp [h, Nat.testBit_succ]
    · simp [h, h2]
theorem zwb0 {x on : Int} {i j : Nat} (hi : i < 32) (hj : j < 32) (ho : on = 0) : zbt (zand x (zxor (zshl 1 (i : Int)) (-1))) j = if j = i then decide (on = 1) else zbt x j := by
  rw [zbt_and, zbt_not _ hj, zb1 hi hj]
  by_cases h : j = i <;> simp [h, ho]
theorem zwb1 {x on : Int} {i j : Nat} (hi : i < 32) (hj : j < 32) (ho : on = 1) : zbt (zor x (zshl 1 (i : Int))) j = if j = i then decide (on = 1) else zbt x j := by
  rw [zbt_or, zb1 hi hj]
  by_cases h : j = i <;> simp [h, ho]
set_option maxRecDepth 100000 in
set_option maxHeartbeats 4000000 in
theorem m_M_hasEdge (l : Launch) (μ : zM) {i s e : Nat} (h_i : i < 4) (hs : s < 6) (he : e < 32) (hr : -2147483648 ≤ μ (4 + 3 * i) s ∧ μ (4 + 3 * i) s ≤ 2147483647) :
    zC l y_M_hasEdge b_M_hasEdge 3 (some .boolean) [] 1 0 21 true [zp (3 + 3 * i), zi (s : Int), zi (e : Int)] μ (zRi (fun r μ' => μ' = μ ∧ r = zB (zbt (μ (4 + 3 * i) s) e))) := by
  refine zC.of (own := n_M) (L := [some (zp (3 + 3 * i)), some (zi (s : Int)), some (zi (e : Int))]) (by decide) rfl (by simp [zcat]) (Nat.le_of_ble_eq_true rfl) rfl (fun Γ => ?_)
  refine zU_aload_n d_M_hasEdge_0 rfl ?_
  refine zU_getR (4 + 3 * i) d_M_hasEdge_1 f_M_9 (zMl h_i) (zMk h_i) rfl (zMr1 h_i) ?_
  refine zU_iload_n d_M_hasEdge_4 rfl ?_
  refine zU_iald (v := μ (4 + 3 * i) s) d_M_hasEdge_5 (zMl1 h_i) (zMk1 h_i) (by decide) (by omega) (rfl) ?_
  refine zU_iload_n d_M_hasEdge_6 rfl ?_
  refine zU_callSi [zi (μ (4 + 3 * i) s), zi (e : Int)] d_M_hasEdge_7 k_M_37 rfl (by decide) (Nat.le_of_ble_eq_true rfl) (fun l => m_C_hasBit l μ _ e hr he) (fun r7 μ7 h7 => ?_)
  obtain ⟨rfl, rfl⟩ := h7
  exact zU_ireturn d_M_hasEdge_10 (Or.inr ⟨rfl, zB_or _⟩) (by decide) (by decide) (⟨_, rfl, rfl, rfl⟩)
set_option maxRecDepth 100000 in
set_option maxHeartbeats 4000000 in
theorem m_M_eventsNotStopped (l : Launch) (μ : zM) {i s : Nat} (h_i : i < 4) (hs : s < 6) :
    zC l y_M_eventsNotStopped b_M_eventsNotStopped 2 (some .int) [] 0 0 0 true [zp (3 + 3 * i), zi (s : Int)] μ (zRi (fun r μ' => μ' = μ ∧ (-2147483648 ≤ r ∧ r ≤ 2147483647) ∧ ∀ j, j < 32 → zbt r j = (!zbt (μ (3 + 3 * i) 5) j || zbt (μ (4 + 3 * i) s) j))) := by
  refine zC.of (own := n_M) (L := [some (zp (3 + 3 * i)), some (zi (s : Int))]) (by decide) rfl (by simp [zcat]) (Nat.le_of_ble_eq_true rfl) rfl (fun Γ => ?_)
  refine zU_aload_n d_M_eventsNotStopped_0 rfl ?_
  refine zU_getI (v := μ (3 + 3 * i) 5) d_M_eventsNotStopped_1 f_M_34 (zMl h_i) (zMk h_i) rfl (rfl) ?_
  refine zU_iconst d_M_eventsNotStopped_4 ?_
  refine zU_ixor d_M_eventsNotStopped_5 ?_
  refine zU_aload_n d_M_eventsNotStopped_6 rfl ?_
  refine zU_getR (4 + 3 * i) d_M_eventsNotStopped_7 f_M_9 (zMl h_i) (zMk h_i) rfl (zMr1 h_i) ?_
  refine zU_iload_n d_M_eventsNotStopped_10 rfl ?_
  refine zU_iald (v := μ (4 + 3 * i) s) d_M_eventsNotStopped_11 (zMl1 h_i) (zMk1 h_i) (by decide) (by omega) (rfl) ?_
  refine zU_ior d_M_eventsNotStopped_12 ?_
  exact zU_ireturn d_M_eventsNotStopped_13 (Or.inl rfl) (by decide) (by decide) (⟨_, rfl, rfl, zor_r _ _, fun j hj => by rw [zbt_or, zbt_not _ hj]⟩)
set_option maxRecDepth 100000 in
set_option maxHeartbeats 4000000 in
theorem m_M_follow (l : Launch) (μ : zM) {i s e : Nat} (h_i : i < 4) (hs : s < 6) (he : e < 12) :
    zC l y_M_follow b_M_follow 3 (some .int) [] 0 0 0 true [zp (3 + 3 * i), zi (s : Int), zi (e : Int)] μ (zRi (fun r μ' => μ' = μ ∧ r = μ (5 + 3 * i) (12 * s + e))) := by
  refine zC.of (own := n_M) (L := [some (zp (3 + 3 * i)), some (zi (s : Int)), some (zi (e : Int))]) (by decide) rfl (by simp [zcat]) (Nat.le_of_ble_eq_true rfl) rfl (fun Γ => ?_)
  refine zU_aload_n d_M_follow_0 rfl ?_
  refine zU_getR (5 + 3 * i) d_M_follow_1 f_M_15 (zMl h_i) (zMk h_i) rfl (zMr2 h_i) ?_
  refine zU_iload_n d_M_follow_4 rfl ?_
  refine zU_bipush d_M_follow_5 (by decide) ?_
  refine zU_imul d_M_follow_7 ?_
  refine zU_iload_n d_M_follow_8 rfl ?_
  refine zU_iadd d_M_follow_9 ?_
  refine zU_iald (v := μ (5 + 3 * i) (12 * s + e)) d_M_follow_10 (zMl2 h_i) (zMk2 h_i) (by decide) (by omega) (by congr 1; omega) ?_
  exact zU_ireturn d_M_follow_11 (Or.inl rfl) (by decide) (by decide) (⟨_, rfl, rfl, rfl⟩)
set_option maxRecDepth 100000 in
set_option maxHeartbeats 4000000 in
theorem m_M_withBit (l : Launch) (μ : zM) {x : Int} {i : Nat} {on : Int} (hi : i < 32) (ho : on = 0 ∨ on = 1) :
    zC l y_M_withBit b_M_withBit 3 (some .int) [] 0 0 0 true [zi x, zi (i : Int), zi on] μ (zRi (fun r μ' => μ' = μ ∧ (-2147483648 ≤ r ∧ r ≤ 2147483647) ∧ ∀ j, j < 32 → zbt r j = if j = i then decide (on = 1) else zbt x j)) := by
  refine zC.of (own := n_M) (L := [some (zi x), some (zi (i : Int)), some (zi on)]) (by decide) rfl (by simp [zcat]) (Nat.le_of_ble_eq_true rfl) rfl (fun Γ => ?_)
  refine zU_iload_n d_M_withBit_0 rfl ?_
  refine zU_if_eq 12 d_M_withBit_1 (by decide) (by omega) (fun h1 => ?_) (fun h1 => ?_)
  · refine zU_iload_n d_M_withBit_12 rfl ?_
    refine zU_iconst d_M_withBit_13 ?_
    refine zU_iload_n d_M_withBit_14 rfl ?_
    refine zU_ishl d_M_withBit_15 ?_
    refine zU_iconst d_M_withBit_16 ?_
    refine zU_ixor d_M_withBit_17 ?_
    refine zU_iand d_M_withBit_18 ?_
    exact zU_ireturn d_M_withBit_19 (Or.inl rfl) (by decide) (by decide) (⟨_, rfl, rfl, zand_r _ _, fun j hj => zwb0 hi hj (by omega)⟩)
  · refine zU_iload_n d_M_withBit_4 rfl ?_
    refine zU_iconst d_M_withBit_5 ?_
    refine zU_iload_n d_M_withBit_6 rfl ?_
    refine zU_ishl d_M_withBit_7 ?_
    refine zU_ior d_M_withBit_8 ?_
    refine zU_goto 19 d_M_withBit_9 (by decide) ?_
    exact zU_ireturn d_M_withBit_19 (Or.inl rfl) (by decide) (by decide) (⟨_, rfl, rfl, zor_r _ _, fun j hj => zwb1 hi hj (by omega)⟩)
set_option maxRecDepth 100000 in
set_option maxHeartbeats 4000000 in
theorem m_A_hasNumber (l : Launch) (μ : zM) {x : Int} (hx : -2147483648 ≤ x ∧ x ≤ 2147483647) (hc : 0 ≤ μ 1 1 ∧ μ 1 1 ≤ 4) :
    zC l y_A_hasNumber b_A_hasNumber 2 (some .boolean) [] 0 0 0 true [zp 1, zi x] μ (zRi (fun r μ' => μ' = μ ∧ r = zB (decide (0 ≤ x ∧ x < μ 1 1)))) := by
  refine zC.of (own := n_A) (L := [some (zp 1), some (zi x)]) (by decide) rfl (by simp [zcat]) (Nat.le_of_ble_eq_true rfl) rfl (fun Γ => ?_)
  refine zU_iload_n d_A_hasNumber_0 rfl ?_
  refine zU_if_lt 16 d_A_hasNumber_1 (by decide) (by omega) (fun h1 => ?_) (fun h1 => ?_)
  · refine zU_iconst d_A_hasNumber_16 ?_
    exact zU_ireturn d_A_hasNumber_17 (Or.inr ⟨rfl, by omega⟩) (by decide) (by decide) (⟨_, rfl, rfl, by simp [zB]; omega⟩)
  · refine zU_iload_n d_A_hasNumber_4 rfl ?_
    refine zU_aload_n d_A_hasNumber_5 rfl ?_
    refine zU_getI (v := μ 1 1) d_A_hasNumber_6 f_A_18 (by decide) rfl rfl (rfl) ?_
    refine zU_icmp_ge 16 d_A_hasNumber_9 (by decide) (by omega) (by omega) (fun h9 => ?_) (fun h9 => ?_)
    · refine zU_iconst d_A_hasNumber_16 ?_
      exact zU_ireturn d_A_hasNumber_17 (Or.inr ⟨rfl, by omega⟩) (by decide) (by decide) (⟨_, rfl, rfl, by simp [zB]; omega⟩)
    · refine zU_iconst d_A_hasNumber_12 ?_
      refine zU_goto 17 d_A_hasNumber_13 (by decide) ?_
      exact zU_ireturn d_A_hasNumber_17 (Or.inr ⟨rfl, by omega⟩) (by decide) (by decide) (⟨_, rfl, rfl, by simp [zB]; omega⟩)
set_option maxRecDepth 100000 in
set_option maxHeartbeats 4000000 in
theorem m_A_isDeclared (l : Launch) (μ : zM) {e : Nat} (he : e < 32) (hr : -2147483648 ≤ μ 1 2 ∧ μ 1 2 ≤ 2147483647) :
    zC l y_A_isDeclared b_A_isDeclared 2 (some .boolean) [] 1 0 21 true [zp 1, zi (e : Int)] μ (zRi (fun r μ' => μ' = μ ∧ r = zB (zbt (μ 1 2) e))) := by
  refine zC.of (own := n_A) (L := [some (zp 1), some (zi (e : Int))]) (by decide) rfl (by simp [zcat]) (Nat.le_of_ble_eq_true rfl) rfl (fun Γ => ?_)
  refine zU_aload_n d_A_isDeclared_0 rfl ?_
  refine zU_getI (v := μ 1 2) d_A_isDeclared_1 f_A_26 (by decide) rfl rfl (rfl) ?_
  refine zU_iload_n d_A_isDeclared_4 rfl ?_
  refine zU_callSi [zi (μ 1 2), zi (e : Int)] d_A_isDeclared_5 k_A_32 rfl (by decide) (Nat.le_of_ble_eq_true rfl) (fun l => m_C_hasBit l μ _ e hr he) (fun r5 μ5 h5 => ?_)
  obtain ⟨rfl, rfl⟩ := h5
  exact zU_ireturn d_A_isDeclared_8 (Or.inr ⟨rfl, zB_or _⟩) (by decide) (by decide) (⟨_, rfl, rfl, rfl⟩)
set_option maxRecDepth 100000 in
set_option maxHeartbeats 4000000 in
theorem m_A_isControllable (l : Launch) (μ : zM) {e : Nat} (he : e < 32) (hr : -2147483648 ≤ μ 1 3 ∧ μ 1 3 ≤ 2147483647) :
    zC l y_A_isControllable b_A_isControllable 2 (some .boolean) [] 1 0 21 true [zp 1, zi (e : Int)] μ (zRi (fun r μ' => μ' = μ ∧ r = zB (zbt (μ 1 3) e))) := by
  refine zC.of (own := n_A) (L := [some (zp 1), some (zi (e : Int))]) (by decide) rfl (by simp [zcat]) (Nat.le_of_ble_eq_true rfl) rfl (fun Γ => ?_)
  refine zU_aload_n d_A_isControllable_0 rfl ?_
  refine zU_getI (v := μ 1 3) d_A_isControllable_1 f_A_29 (by decide) rfl rfl (rfl) ?_
  refine zU_iload_n d_A_isControllable_4 rfl ?_
  refine zU_callSi [zi (μ 1 3), zi (e : Int)] d_A_isControllable_5 k_A_32 rfl (by decide) (Nat.le_of_ble_eq_true rfl) (fun l => m_C_hasBit l μ _ e hr he) (fun r5 μ5 h5 => ?_)
  obtain ⟨rfl, rfl⟩ := h5
  exact zU_ireturn d_A_isControllable_8 (Or.inr ⟨rfl, zB_or _⟩) (by decide) (by decide) (⟨_, rfl, rfl, rfl⟩)
set_option maxRecDepth 100000 in
set_option maxHeartbeats 4000000 in
theorem m_A_stateIn (l : Launch) (μ : zM) {c i : Nat} (hc : c < 4096) (hi : i < 4) :
    zC l y_A_stateIn b_A_stateIn 2 (some .int) [] 0 0 0 true [zi (c : Int), zi (i : Int)] μ (zRi (fun r μ' => μ' = μ ∧ r = (dig c i : Int))) := by
  refine zC.of (own := n_A) (L := [some (zi (c : Int)), some (zi (i : Int))]) (by decide) rfl (by simp [zcat]) (Nat.le_of_ble_eq_true rfl) rfl (fun Γ => ?_)
  refine zU_iload_n d_A_stateIn_0 rfl ?_
  refine zU_iload_n d_A_stateIn_1 rfl ?_
  refine zU_iconst d_A_stateIn_2 ?_
  refine zU_imul d_A_stateIn_3 ?_
  refine zU_ishr d_A_stateIn_4 ?_
  refine zU_bipush d_A_stateIn_5 (by decide) ?_
  refine zU_iand d_A_stateIn_7 ?_
  exact zU_ireturn d_A_stateIn_8 (Or.inl rfl) (by decide) (by decide) (⟨_, rfl, rfl, zstateIn hc hi⟩)
set_option maxRecDepth 100000 in
set_option maxHeartbeats 4000000 in
theorem m_A_withState (l : Launch) (μ : zM) {c i s : Nat} (hc : c < 4096) (hi : i < 4) (hs : s < 8) :
    zC l y_A_withState b_A_withState 4 (some .int) [] 0 0 0 true [zi (c : Int), zi (i : Int), zi (s : Int)] μ (zRi (fun r μ' => μ' = μ ∧ r = ((cod (fun j => if j = i then s else dig c j) : Nat) : Int))) := by
  refine zC.of (own := n_A) (L := [some (zi (c : Int)), some (zi (i : Int)), some (zi (s : Int)), none]) (by decide) rfl (by simp [zcat]) (Nat.le_of_ble_eq_true rfl) rfl (fun Γ => ?_)
  refine zU_iload_n d_A_withState_0 rfl ?_
  refine zU_iconst d_A_withState_1 ?_
  refine zU_imul d_A_withState_2 ?_
  refine zU_istore_n d_A_withState_3 (by decide) ?_
  refine zU.eqL (L' := [some (zi (c : Int)), some (zi (i : Int)), some (zi (s : Int)), some (zi ((i : Int) * 3))]) rfl ?_
  refine zU_iload_n d_A_withState_4 rfl ?_
  refine zU_bipush d_A_withState_5 (by decide) ?_
  refine zU_iload_n d_A_withState_7 rfl ?_
  refine zU_ishl d_A_withState_8 ?_
  refine zU_iconst d_A_withState_9 ?_
  refine zU_ixor d_A_withState_10 ?_
  refine zU_iand d_A_withState_11 ?_
  refine zU_iload_n d_A_withState_12 rfl ?_
  refine zU_iload_n d_A_withState_13 rfl ?_
  refine zU_ishl d_A_withState_14 ?_
  refine zU_ior d_A_withState_15 ?_
  exact zU_ireturn d_A_withState_16 (Or.inl rfl) (by decide) (by decide) (⟨_, rfl, rfl, zwithState hc hi hs⟩)
end
section
theorem z4095 : ∀ e, e < 12 → zbt 4095 e = true := by decide
theorem zB_nz {b : Bool} : ¬ zB b = 0 ↔ b = true := by cases b <;> simp [zB]
theorem zB_n1 {b : Bool} : ¬ zB b = 1 ↔ b = false := by cases b <;> simp [zB]
theorem zBr (b : Bool) : -2147483648 ≤ zB b ∧ zB b ≤ 2147483647 := by cases b <;> simp [zB]
theorem zRn {n : Nat} (h : n < 4) : zR 2 n = 3 + 3 * n := by
  have : ∀ n : Nat, n < 4 → zR 2 n = 3 + 3 * n := by decide
  exact this n h
theorem kd (b : Bool) : (if b = true then (0 : Int) else 1) = zB (!b) := by cases b <;> simp [zB]
theorem rng_any (f : Nat → Bool) (i : Nat) : (List.range (i + 1)).any f = ((List.range i).any f || f i) := by
  rw [List.range_succ, List.any_append]
  simp
theorem rng_all (f : Nat → Bool) (i : Nat) : (List.range (i + 1)).all f = ((List.range i).all f && f i) := by
  rw [List.range_succ, List.all_append]
  simp
theorem all_iff {f : Nat → Bool} {n : Nat} : (List.range n).all f = true ↔ ∀ i, i < n → f i = true := by
  simp [List.all_eq_true]
theorem any_iff {f : Nat → Bool} {n : Nat} : (List.range n).any f = true ↔ ∃ i, i < n ∧ f i = true := by
  simp [List.any_eq_true]
theorem all_not {f : Nat → Bool} {n i : Nat} (hi : i < n) (h : f i = false) : (List.range n).all f = false := by
  cases h2 : (List.range n).all f
  · rfl
  · rw [all_iff.mp h2 i hi] at h
    cases h
theorem any_not {f : Nat → Bool} {n : Nat} (h : ∀ i, i < n → f i = false) : (List.range n).any f = false := by
  cases h2 : (List.range n).any f
  · rfl
  · obtain ⟨i, hi, h3⟩ := any_iff.mp h2
    rw [h i hi] at h3
    cases h3
theorem plS0 {x : Int} {f : Nat → Bool} {i : Nat} (h : ∀ j, j < 32 → zbt x j = (decide (j < i) && f j)) (hf : f i = false) : ∀ j, j < 32 → zbt x j = (decide (j < i + 1) && f j) := by
  intro j hj
  rw [h j hj]
  by_cases h1 : j = i
  · subst h1
    simp [hf]
  · have : (j < i + 1) ↔ (j < i) := by omega
    simp [this]
theorem plS1 {x : Int} {f : Nat → Bool} {i : Nat} (hi : i < 32) (h : ∀ j, j < 32 → zbt x j = (decide (j < i) && f j)) (hf : f i = true) : ∀ j, j < 32 → zbt (zor x (zshl 1 (i : Int))) j = (decide (j < i + 1) && f j) := by
  intro j hj
  rw [zbt_or, zb1 hi hj, h j hj]
  by_cases h1 : j = i
  · subst h1
    simp [hf]
  · have : (j < i + 1) ↔ (j < i) := by omega
    simp [this, h1]
theorem zmask0 {x : Int} (hx : -2147483648 ≤ x ∧ x ≤ 2147483647) : x = 0 ↔ ∀ j, j < 32 → zbt x j = false := by
  constructor
  · intro h j _
    rw [h, zbt_zero]
  · intro h
    exact zext hx (by omega) (fun j hj => by rw [h j hj, zbt_zero])
/-! what the class's questions answer, of the automata a, the members mem, the code c -/
def aReady (a : aT) (mem : Nat → Bool) : Bool := (List.range (aN a)).all (fun i => !mem i || decide (0 ≤ aI a i)) && (List.range (aN a)).any (aP a)
def aFirst (a : aT) (mem : Nat → Bool) (j : Nat) : Nat := if j < aN a ∧ mem j = true then (aI a j).toNat else 0
def aGoal (a : aT) (mem : Nat → Bool) (c : Nat) : Bool := (List.range (aN a)).all (fun i => !mem i || aM a i (dig c i))
def aBad (a : aT) (mem : Nat → Bool) (c : Nat) : Bool := (List.range (aN a)).any (fun i => mem i && aF a i (dig c i))
def aMay (a : aT) (c e : Nat) : Bool := (List.range (aN a)).any (fun i => aP a i && aH a i e) && (List.range (aN a)).all (fun i => !aP a i || (!aH a i e || decide (0 ≤ aE a i (dig c i) e)))
def aFree (a : aT) (mem : Nat → Bool) (c e : Nat) : Bool := (List.range (aN a)).all (fun i => !mem i || (!aH a i e || decide (0 ≤ aE a i (dig c i) e)))
def aStep (a : aT) (mem : Nat → Bool) (c e j : Nat) : Nat := if j < aN a ∧ mem j = true ∧ aH a j e = true then (aE a j (dig c j) e).toNat else dig c j
/-- every member's digit is one of its states -/
def aVal (a : aT) (mem : Nat → Bool) (c : Nat) : Prop := c < 4096 ∧ ∀ i, i < aN a → mem i = true → dig c i < aS a i
theorem evS {a : aT} {i s : Nat} {μ : zM} (ha : aOk a) (hA : cAut a i μ) (hs : s < 6) {r : Int} (h : ∀ j, j < 32 → zbt r j = (!zbt (μ (3 + 3 * i) 5) j || zbt (μ (4 + 3 * i) s) j)) : ∀ e, e < 12 → zbt r e = (!aH a i e || decide (0 ≤ aE a i s e)) := by
  intro e he
  rw [h e (by omega), hA.2.2.2.2.2.1.2 e he, (hA.2.2.2.2.2.2 s hs).1.2 e he]
theorem zevr {n : Nat} (h : n ≤ 4) : (-2147483648 ≤ zshl 1 (n : Int) - 1 ∧ zshl 1 (n : Int) - 1 ≤ 2147483647) ∧ ∀ j, j < 4 → zbt (zshl 1 (n : Int) - 1) j = decide (j < n) := by
  have : ∀ n : Nat, n < 5 → (-2147483648 ≤ zshl 1 (n : Int) - 1 ∧ zshl 1 (n : Int) - 1 ≤ 2147483647) ∧ ∀ j, j < 4 → zbt (zshl 1 (n : Int) - 1) j = decide (j < n) := by decide
  exact this n (by omega)
theorem zrd {f : Nat → Bool} {i : Nat} (h : ∀ j, j < i → f j = true) (hf : f i = true) : ∀ j, j < i + 1 → f j = true := by
  intro j hj
  by_cases h1 : j = i
  · rw [h1]; exact hf
  · exact h j (by omega)
theorem zrn {f : Nat → Bool} {i : Nat} (h : ∀ j, j < i → f j = false) (hf : f i = false) : ∀ j, j < i + 1 → f j = false := by
  intro j hj
  by_cases h1 : j = i
  · rw [h1]; exact hf
  · exact h j (by omega)
set_option maxRecDepth 100000 in
set_option maxHeartbeats 4000000 in
theorem m_A_hasState (l : Launch) (μ : zM) {a : aT} (ha : aOk a) (hc : cRep a μ) {x s : Int} (hx : -2147483648 ≤ x ∧ x ≤ 2147483647) (hs : -2147483648 ≤ s ∧ s ≤ 2147483647) :
    zC l y_A_hasState b_A_hasState 3 (some .boolean) [] 1 0 21 true [zp 1, zi x, zi s] μ (zRi (fun r μ' => μ' = μ ∧ r = zB (decide (0 ≤ x ∧ x < aN a ∧ 0 ≤ s ∧ s < aS a x.toNat)))) := by
  refine zC.of (own := n_A) (L := [some (zp 1), some (zi x), some (zi s)]) (by decide) rfl (by simp [zcat]) (Nat.le_of_ble_eq_true rfl) rfl (fun Γ => ?_)
  obtain ⟨hN, hD, hCt, hA⟩ := id hc
  have hN4 := ha.1
  refine zU_aload_n d_A_hasState_0 rfl ?_
  refine zU_iload_n d_A_hasState_1 rfl ?_
  refine zU_callVi (p0 := 1) [zi x] d_A_hasState_2 k_A_36 rfl (by decide) rfl rfl (by decide) (Nat.le_of_ble_eq_true rfl) (fun l => m_A_hasNumber l μ hx (by omega)) (fun r2 μ2 h2 => ?_)
  obtain ⟨hμ2, rfl⟩ := h2
  replace hμ2 := hμ2.symm
  subst hμ2
  refine zU_if_eq 29 d_A_hasState_5 (by decide) (zBr _) (fun h5 => ?_) (fun h5 => ?_)
  · refine zU_iconst d_A_hasState_29 ?_
    exact zU_ireturn d_A_hasState_30 (Or.inr ⟨rfl, by omega⟩) (by decide) (by decide) (⟨_, rfl, rfl, by have h := zB_zero.mp h5; rw [decide_eq_false_iff_not] at h; rw [eq_comm, zB_zero, decide_eq_false_iff_not]; omega⟩)
  · refine zU_iload_n d_A_hasState_8 rfl ?_
    refine zU_if_lt 29 d_A_hasState_9 (by decide) (by omega) (fun h9 => ?_) (fun h9 => ?_)
    · refine zU_iconst d_A_hasState_29 ?_
      exact zU_ireturn d_A_hasState_30 (Or.inr ⟨rfl, by omega⟩) (by decide) (by decide) (⟨_, rfl, rfl, by rw [eq_comm, zB_zero, decide_eq_false_iff_not]; omega⟩)
    · refine zU_iload_n d_A_hasState_12 rfl ?_
      refine zU_aload_n d_A_hasState_13 rfl ?_
      have hq := zB_nz.mp h5
      rw [decide_eq_true_iff] at hq
      obtain ⟨j, hj⟩ : ∃ j : Nat, x = (j : Int) := ⟨x.toNat, by omega⟩
      have h_j : j < 4 := by omega
      have hjn : x.toNat = j := by omega
      refine zU_getR 2 d_A_hasState_14 f_A_11 (by decide) rfl rfl rfl ?_
      refine zU_iload_n d_A_hasState_17 rfl ?_
      refine zU_aald (3 + 3 * j) d_A_hasState_18 (by decide) rfl (by decide) (by omega) (by rw [hj]; exact zRn h_j) ?_
      refine zU_getI (v := (aS a j : Int)) d_A_hasState_19 f_A_40 (zMl h_j) (zMk h_j) rfl ((hA j (by omega)).1) ?_
      refine zU_icmp_ge 29 d_A_hasState_22 (by decide) (by have := (ha.2 j (by omega)).1; omega) (by have := (ha.2 j (by omega)).1; omega) (fun h22 => ?_) (fun h22 => ?_)
      · refine zU_iconst d_A_hasState_29 ?_
        exact zU_ireturn d_A_hasState_30 (Or.inr ⟨rfl, by omega⟩) (by decide) (by decide) (⟨_, rfl, rfl, by rw [eq_comm, zB_zero, decide_eq_false_iff_not, hjn]; omega⟩)
      · refine zU_iconst d_A_hasState_25 ?_
        refine zU_goto 30 d_A_hasState_26 (by decide) ?_
        exact zU_ireturn d_A_hasState_30 (Or.inr ⟨rfl, by omega⟩) (by decide) (by decide) (⟨_, rfl, rfl, by rw [eq_comm, zB_one, decide_eq_true_iff, hjn]; omega⟩)
set_option maxRecDepth 100000 in
set_option maxHeartbeats 4000000 in
theorem m_A_isRule (l : Launch) (μ : zM) {a : aT} (ha : aOk a) (hc : cRep a μ) {x : Int} (hx : -2147483648 ≤ x ∧ x ≤ 2147483647) :
    zC l y_A_isRule b_A_isRule 2 (some .boolean) [] 1 0 21 true [zp 1, zi x] μ (zRi (fun r μ' => μ' = μ ∧ r = zB (decide (0 ≤ x ∧ x < aN a) && !aP a x.toNat))) := by
  refine zC.of (own := n_A) (L := [some (zp 1), some (zi x)]) (by decide) rfl (by simp [zcat]) (Nat.le_of_ble_eq_true rfl) rfl (fun Γ => ?_)
  obtain ⟨hN, hD, hCt, hA⟩ := id hc
  have hN4 := ha.1
  refine zU_aload_n d_A_isRule_0 rfl ?_
  refine zU_iload_n d_A_isRule_1 rfl ?_
  refine zU_callVi (p0 := 1) [zi x] d_A_isRule_2 k_A_36 rfl (by decide) rfl rfl (by decide) (Nat.le_of_ble_eq_true rfl) (fun l => m_A_hasNumber l μ hx (by omega)) (fun r2 μ2 h2 => ?_)
  obtain ⟨hμ2, rfl⟩ := h2
  replace hμ2 := hμ2.symm
  subst hμ2
  refine zU_if_eq 25 d_A_isRule_5 (by decide) (zBr _) (fun h5 => ?_) (fun h5 => ?_)
  · refine zU_iconst d_A_isRule_25 ?_
    exact zU_ireturn d_A_isRule_26 (Or.inr ⟨rfl, by omega⟩) (by decide) (by decide) (⟨_, rfl, rfl, by have h := zB_zero.mp h5; rw [hN] at h; rw [h]; rfl⟩)
  · refine zU_aload_n d_A_isRule_8 rfl ?_
    have hq := zB_nz.mp h5
    rw [decide_eq_true_iff] at hq
    obtain ⟨j, hj⟩ : ∃ j : Nat, x = (j : Int) := ⟨x.toNat, by omega⟩
    have h_j : j < 4 := by omega
    have hjn : x.toNat = j := by omega
    have hq2 : decide (0 ≤ x ∧ x < (aN a : Int)) = true := by rw [decide_eq_true_iff]; omega
    refine zU_getR 2 d_A_isRule_9 f_A_11 (by decide) rfl rfl rfl ?_
    refine zU_iload_n d_A_isRule_12 rfl ?_
    refine zU_aald (3 + 3 * j) d_A_isRule_13 (by decide) rfl (by decide) (by omega) (by rw [hj]; exact zRn h_j) ?_
    refine zU_getI (v := zB (!aP a j)) d_A_isRule_14 f_A_43 (zMl h_j) (zMk h_j) rfl ((hA j (by omega)).2.1.trans (kd _)) ?_
    refine zU_iconst d_A_isRule_17 ?_
    refine zU_icmp_ne 25 d_A_isRule_18 (by decide) (by first | exact zBr _ | omega) (by first | exact zBr _ | omega) (fun h18 => ?_) (fun h18 => ?_)
    · refine zU_iconst d_A_isRule_25 ?_
      exact zU_ireturn d_A_isRule_26 (Or.inr ⟨rfl, by omega⟩) (by decide) (by decide) (⟨_, rfl, rfl, by have h := zB_n1.mp h18; rw [hq2, hjn, h]; rfl⟩)
    · refine zU_iconst d_A_isRule_21 ?_
      refine zU_goto 26 d_A_isRule_22 (by decide) ?_
      exact zU_ireturn d_A_isRule_26 (Or.inr ⟨rfl, by omega⟩) (by decide) (by decide) (⟨_, rfl, rfl, by have h := zB_one.mp h18; rw [hq2, hjn, h]; rfl⟩)
set_option maxRecDepth 100000 in
set_option maxHeartbeats 4000000 in
theorem m_A_everyone (l : Launch) (μ : zM) {a : aT} (ha : aOk a) (hc : cRep a μ) :
    zC l y_A_everyone b_A_everyone 1 (some .int) [] 0 0 0 true [zp 1] μ (zRi (fun r μ' => μ' = μ ∧ (-2147483648 ≤ r ∧ r ≤ 2147483647) ∧ ∀ j, j < 4 → zbt r j = decide (j < aN a))) := by
  refine zC.of (own := n_A) (L := [some (zp 1)]) (by decide) rfl (by simp [zcat]) (Nat.le_of_ble_eq_true rfl) rfl (fun Γ => ?_)
  obtain ⟨hN, hD, hCt, hA⟩ := id hc
  have hN4 := ha.1
  refine zU_iconst d_A_everyone_0 ?_
  refine zU_aload_n d_A_everyone_1 rfl ?_
  refine zU_getI (v := (aN a : Int)) d_A_everyone_2 f_A_18 (by decide) rfl rfl (hN) ?_
  refine zU_ishl d_A_everyone_5 ?_
  refine zU_iconst d_A_everyone_6 ?_
  refine zU_isub d_A_everyone_7 ?_
  exact zU_ireturn d_A_everyone_8 (Or.inl rfl) (by decide) (by decide) (⟨_, rfl, rfl, zevr hN4⟩)
set_option maxRecDepth 100000 in
set_option maxHeartbeats 4000000 in
theorem m_A_plants (l : Launch) (μ : zM) {a : aT} (ha : aOk a) (hc : cRep a μ) :
    zC l y_A_plants b_A_plants 3 (some .int) [] 0 0 0 true [zp 1] μ (zRi (fun r μ' => μ' = μ ∧ (-2147483648 ≤ r ∧ r ≤ 2147483647) ∧ ∀ j, j < 32 → zbt r j = (decide (j < aN a) && aP a j))) := by
  refine zC.of (own := n_A) (L := [some (zp 1), none, none]) (by decide) rfl (by simp [zcat]) (Nat.le_of_ble_eq_true rfl) rfl (fun Γ => ?_)
  obtain ⟨hN, hD, hCt, hA⟩ := id hc
  have hN4 := ha.1
  refine zU_iconst d_A_plants_0 ?_
  refine zU_istore_n d_A_plants_1 (by decide) ?_
  refine zU.eqL (L' := [some (zp 1), some (zi 0), none]) rfl ?_
  refine zU_iconst d_A_plants_2 ?_
  refine zU_istore_n d_A_plants_3 (by decide) ?_
  refine zU.eqL (L' := [some (zp 1), some (zi 0), some (zi 0)]) rfl ?_
  have hJ4 : ∀ (d : Nat) (i : Nat) (x : Int), i + d = aN a → (-2147483648 ≤ x ∧ x ≤ 2147483647) → (∀ j, j < 32 → zbt x j = (decide (j < i) && aP a j)) → zU Γ b_A_plants n_A 3 (some .int) [] (zRm 0 0 0) 0 0 (zFin Γ 0 true (zRi (fun r μ' => μ' = μ ∧ (-2147483648 ≤ r ∧ r ≤ 2147483647) ∧ ∀ j, j < 32 → zbt r j = (decide (j < aN a) && aP a j)))) true 0 μ 4 [some (zp 1), some (zi x), some (zi (i : Int))] [] := by
    intro d
    induction d using Nat.strongRecOn with
    | _ d ih4 =>
      intro i x hd hx hb
      refine zU_iload_n d_A_plants_4 rfl ?_
      refine zU_aload_n d_A_plants_5 rfl ?_
      refine zU_getI (v := (aN a : Int)) d_A_plants_6 f_A_18 (by decide) rfl rfl (hN) ?_
      refine zU_icmp_ge 36 d_A_plants_9 (by decide) (by omega) (by omega) (fun h9 => ?_) (fun h9 => ?_)
      · refine zU_iload_n d_A_plants_36 rfl ?_
        exact zU_ireturn d_A_plants_37 (Or.inl rfl) (by decide) (by decide) (⟨_, rfl, rfl, hx, by have hi : i = aN a := (by omega); subst hi; exact hb⟩)
      · have h_i : i < 4 := by omega
        refine zU_aload_n d_A_plants_12 rfl ?_
        refine zU_getR 2 d_A_plants_13 f_A_11 (by decide) rfl rfl rfl ?_
        refine zU_iload_n d_A_plants_16 rfl ?_
        refine zU_aald (3 + 3 * i) d_A_plants_17 (by decide) rfl (by decide) (by omega) (zRn h_i) ?_
        refine zU_getI (v := zB (!aP a i)) d_A_plants_18 f_A_43 (zMl h_i) (zMk h_i) rfl ((hA i (by omega)).2.1.trans (kd _)) ?_
        refine zU_if_ne 30 d_A_plants_21 (by decide) (zBr _) (fun h21 => ?_) (fun h21 => ?_)
        · refine zU_iinc d_A_plants_30 rfl ?_
          refine zU.eqL (L' := [some (zp 1), some (zi x), some (zi (((i + 1 : Nat) : Int)))]) (by first | rfl | (show _ = _; simp only [List.set]; congr 3; omega)) ?_
          refine zU_goto 4 d_A_plants_33 (by decide) ?_
          exact ih4 (d - 1) (by omega) (i + 1) _ (by omega) hx (plS0 hb (by simpa using zB_nz.mp h21))
        · refine zU_iload_n d_A_plants_24 rfl ?_
          refine zU_iconst d_A_plants_25 ?_
          refine zU_iload_n d_A_plants_26 rfl ?_
          refine zU_ishl d_A_plants_27 ?_
          refine zU_ior d_A_plants_28 ?_
          refine zU_istore_n d_A_plants_29 (by decide) ?_
          refine zU.eqL (L' := [some (zp 1), some (zi (zor x (zshl 1 (i : Int)))), some (zi (i : Int))]) rfl ?_
          refine zU_iinc d_A_plants_30 rfl ?_
          refine zU.eqL (L' := [some (zp 1), some (zi (zor x (zshl 1 (i : Int)))), some (zi (((i + 1 : Nat) : Int)))]) (by first | rfl | (show _ = _; simp only [List.set]; congr 3; omega)) ?_
          refine zU_goto 4 d_A_plants_33 (by decide) ?_
          exact ih4 (d - 1) (by omega) (i + 1) _ (by omega) (zor_r _ _) (plS1 (by omega) hb (by simpa using zB_zero.mp h21))
  exact hJ4 (aN a) 0 0 (by omega) (by omega) (fun j _ => by simp [zbt_zero])
set_option maxRecDepth 100000 in
set_option maxHeartbeats 4000000 in
theorem m_A_areReady (l : Launch) (μ : zM) {a : aT} (ha : aOk a) (hc : cRep a μ) {m : Int} {mem : Nat → Bool} (hm : zmask 4 m mem) :
    zC l y_A_areReady b_A_areReady 3 (some .boolean) [] 1 0 22 true [zp 1, zi m] μ (zRi (fun r μ' => μ' = μ ∧ r = zB (aReady a mem))) := by
  refine zC.of (own := n_A) (L := [some (zp 1), some (zi m), none]) (by decide) rfl (by simp [zcat]) (Nat.le_of_ble_eq_true rfl) rfl (fun Γ => ?_)
  obtain ⟨hN, hD, hCt, hA⟩ := id hc
  have hN4 := ha.1
  refine zU_iconst d_A_areReady_0 ?_
  refine zU_istore_n d_A_areReady_1 (by decide) ?_
  refine zU.eqL (L' := [some (zp 1), some (zi m), some (zi 0)]) rfl ?_
  have hJ2 : ∀ (d : Nat) (i : Nat), i + d = aN a → (∀ j, j < i → (!mem j || decide (0 ≤ aI a j)) = true) → zU Γ b_A_areReady n_A 3 (some .boolean) [] (zRm 1 0 22) 0 0 (zFin Γ 0 true (zRi (fun r μ' => μ' = μ ∧ r = zB (aReady a mem)))) true 0 μ 2 [some (zp 1), some (zi m), some (zi (i : Int))] [] := by
    intro d
    induction d using Nat.strongRecOn with
    | _ d ih2 =>
      intro i hd hb
      refine zU_iload_n d_A_areReady_2 rfl ?_
      refine zU_aload_n d_A_areReady_3 rfl ?_
      refine zU_getI (v := (aN a : Int)) d_A_areReady_4 f_A_18 (by decide) rfl rfl (hN) ?_
      refine zU_icmp_ge 39 d_A_areReady_7 (by decide) (by omega) (by omega) (fun h7 => ?_) (fun h7 => ?_)
      · refine zU_aload_n d_A_areReady_39 rfl ?_
        refine zU_callVi (p0 := 1) [] d_A_areReady_40 k_A_49 rfl (by decide) rfl rfl (by decide) (Nat.le_of_ble_eq_true rfl) (fun l => m_A_plants l μ ha hc) (fun r40 μ40 h40 => ?_)
        obtain ⟨hμ40, hr, hb40⟩ := h40
        replace hμ40 := hμ40.symm
        subst hμ40
        refine zU_if_eq 50 d_A_areReady_43 (by decide) (hr) (fun h43 => ?_) (fun h43 => ?_)
        · refine zU_iconst d_A_areReady_50 ?_
          exact zU_ireturn d_A_areReady_51 (Or.inr ⟨rfl, by omega⟩) (by decide) (by decide) (⟨_, rfl, rfl, by
        rw [eq_comm, zB_zero]
        unfold aReady
        rw [any_not (fun j hj => by have h9 := (zmask0 hr).mp h43 j (by omega); rw [hb40 j (by omega)] at h9; simpa [hj] using h9), Bool.and_false]⟩)
        · refine zU_iconst d_A_areReady_46 ?_
          refine zU_goto 51 d_A_areReady_47 (by decide) ?_
          exact zU_ireturn d_A_areReady_51 (Or.inr ⟨rfl, by omega⟩) (by decide) (by decide) (⟨_, rfl, rfl, by
        rw [eq_comm, zB_one]
        unfold aReady
        have hi : i = aN a := by omega
        subst hi
        rw [all_iff.mpr hb, Bool.true_and]
        cases h9 : (List.range (aN a)).any (aP a)
        · exfalso
          apply h43
          rw [zmask0 hr]
          intro j hj
          rw [hb40 j hj]
          by_cases hj2 : j < aN a
          · have h8 : ¬ aP a j = true := fun h => by rw [any_iff.mpr ⟨j, hj2, h⟩] at h9; cases h9
            simp [h8]
          · simp [hj2]
        · rfl⟩)
      · have h_i : i < 4 := by omega
        refine zU_iload_n d_A_areReady_10 rfl ?_
        refine zU_iload_n d_A_areReady_11 rfl ?_
        refine zU_callSi [zi m, zi (i : Int)] d_A_areReady_12 k_A_32 rfl (by decide) (Nat.le_of_ble_eq_true rfl) (fun l => m_C_hasBit l μ m i hm.1 (by omega)) (fun r12 μ12 h12 => ?_)
        obtain ⟨hμ12, rfl⟩ := h12
        replace hμ12 := hμ12.symm
        subst hμ12
        refine zU_if_eq 33 d_A_areReady_15 (by decide) (zBr _) (fun h15 => ?_) (fun h15 => ?_)
        · refine zU_iinc d_A_areReady_33 rfl ?_
          refine zU.eqL (L' := [some (zp 1), some (zi m), some (zi (((i + 1 : Nat) : Int)))]) (by first | rfl | (show _ = _; simp only [List.set]; congr 3; omega)) ?_
          refine zU_goto 2 d_A_areReady_36 (by decide) ?_
          exact ih2 (d - 1) (by omega) (i + 1) (by omega) (zrd hb (by rw [← hm.2 i h_i, zB_zero.mp h15]; rfl))
        · refine zU_aload_n d_A_areReady_18 rfl ?_
          refine zU_getR 2 d_A_areReady_19 f_A_11 (by decide) rfl rfl rfl ?_
          refine zU_iload_n d_A_areReady_22 rfl ?_
          refine zU_aald (3 + 3 * i) d_A_areReady_23 (by decide) rfl (by decide) (by omega) (zRn h_i) ?_
          refine zU_getI (v := aI a i) d_A_areReady_24 f_A_46 (zMl h_i) (zMk h_i) rfl ((hA i (by omega)).2.2.1) ?_
          refine zU_iconst d_A_areReady_27 ?_
          refine zU_icmp_ne 33 d_A_areReady_28 (by decide) (by first | omega | (have := (ha.2 i (by omega)).2.1; have := (ha.2 i (by omega)).1; omega)) (by first | omega | (have := (ha.2 i (by omega)).2.1; have := (ha.2 i (by omega)).1; omega)) (fun h28 => ?_) (fun h28 => ?_)
          · refine zU_iinc d_A_areReady_33 rfl ?_
            refine zU.eqL (L' := [some (zp 1), some (zi m), some (zi (((i + 1 : Nat) : Int)))]) (by first | rfl | (show _ = _; simp only [List.set]; congr 3; omega)) ?_
            refine zU_goto 2 d_A_areReady_36 (by decide) ?_
            exact ih2 (d - 1) (by omega) (i + 1) (by omega) (zrd hb (by rw [Bool.or_eq_true, decide_eq_true_iff]; right; have := (ha.2 i (by omega)).2.1; omega))
          · refine zU_iconst d_A_areReady_31 ?_
            exact zU_ireturn d_A_areReady_32 (Or.inr ⟨rfl, by omega⟩) (by decide) (by decide) (⟨_, rfl, rfl, by rw [eq_comm, zB_zero]; unfold aReady; rw [all_not (i := i) (by omega) (by rw [← hm.2 i h_i, zB_nz.mp h15]; simp; omega)]; rfl⟩)
  exact hJ2 (aN a) 0 (by omega) (fun j h => absurd h (by omega))
set_option maxRecDepth 100000 in
set_option maxHeartbeats 4000000 in
theorem m_A_isMarked (l : Launch) (μ : zM) {a : aT} (ha : aOk a) (hc : cRep a μ) {m : Int} {mem : Nat → Bool} (hm : zmask 4 m mem) {c : Nat} (hv : aVal a mem c) :
    zC l y_A_isMarked b_A_isMarked 4 (some .boolean) [] 1 0 21 true [zp 1, zi (c : Int), zi m] μ (zRi (fun r μ' => μ' = μ ∧ r = zB (aGoal a mem c))) := by
  refine zC.of (own := n_A) (L := [some (zp 1), some (zi (c : Int)), some (zi m), none]) (by decide) rfl (by simp [zcat]) (Nat.le_of_ble_eq_true rfl) rfl (fun Γ => ?_)
  obtain ⟨hN, hD, hCt, hA⟩ := id hc
  have hN4 := ha.1
  refine zU_iconst d_A_isMarked_0 ?_
  refine zU_istore_n d_A_isMarked_1 (by decide) ?_
  refine zU.eqL (L' := [some (zp 1), some (zi (c : Int)), some (zi m), some (zi 0)]) rfl ?_
  have hJ2 : ∀ (d : Nat) (i : Nat), i + d = aN a → (∀ j, j < i → (!mem j || aM a j (dig c j)) = true) → zU Γ b_A_isMarked n_A 4 (some .boolean) [] (zRm 1 0 21) 0 0 (zFin Γ 0 true (zRi (fun r μ' => μ' = μ ∧ r = zB (aGoal a mem c)))) true 0 μ 2 [some (zp 1), some (zi (c : Int)), some (zi m), some (zi (i : Int))] [] := by
    intro d
    induction d using Nat.strongRecOn with
    | _ d ih2 =>
      intro i hd hb
      refine zU_iload_n d_A_isMarked_2 rfl ?_
      refine zU_aload_n d_A_isMarked_3 rfl ?_
      refine zU_getI (v := (aN a : Int)) d_A_isMarked_4 f_A_18 (by decide) rfl rfl (hN) ?_
      refine zU_icmp_ge 46 d_A_isMarked_7 (by decide) (by omega) (by omega) (fun h7 => ?_) (fun h7 => ?_)
      · refine zU_iconst d_A_isMarked_46 ?_
        exact zU_ireturn d_A_isMarked_47 (Or.inr ⟨rfl, by omega⟩) (by decide) (by decide) (⟨_, rfl, rfl, by rw [eq_comm, zB_one]; unfold aGoal; have hi : i = aN a := (by omega); subst hi; exact all_iff.mpr hb⟩)
      · have h_i : i < 4 := by omega
        refine zU_iload_n d_A_isMarked_10 rfl ?_
        refine zU_iload_n d_A_isMarked_11 rfl ?_
        refine zU_callSi [zi m, zi (i : Int)] d_A_isMarked_12 k_A_32 rfl (by decide) (Nat.le_of_ble_eq_true rfl) (fun l => m_C_hasBit l μ m i hm.1 (by omega)) (fun r12 μ12 h12 => ?_)
        obtain ⟨hμ12, rfl⟩ := h12
        replace hμ12 := hμ12.symm
        subst hμ12
        refine zU_if_eq 40 d_A_isMarked_15 (by decide) (zBr _) (fun h15 => ?_) (fun h15 => ?_)
        · refine zU_iinc d_A_isMarked_40 rfl ?_
          refine zU.eqL (L' := [some (zp 1), some (zi (c : Int)), some (zi m), some (zi (((i + 1 : Nat) : Int)))]) (by first | rfl | (show _ = _; simp only [List.set]; congr 3; omega)) ?_
          refine zU_goto 2 d_A_isMarked_43 (by decide) ?_
          exact ih2 (d - 1) (by omega) (i + 1) (by omega) (zrd hb (by rw [← hm.2 i h_i, zB_zero.mp h15]; rfl))
        · have hdi : dig c i < 6 := by have := hv.2 i (by omega) (by rw [← hm.2 i h_i]; exact zB_nz.mp h15); have := (ha.2 i (by omega)).1; omega
          refine zU_aload_n d_A_isMarked_18 rfl ?_
          refine zU_getR 2 d_A_isMarked_19 f_A_11 (by decide) rfl rfl rfl ?_
          refine zU_iload_n d_A_isMarked_22 rfl ?_
          refine zU_aald (3 + 3 * i) d_A_isMarked_23 (by decide) rfl (by decide) (by omega) (zRn h_i) ?_
          refine zU_getI (v := μ (3 + 3 * i) 3) d_A_isMarked_24 f_A_57 (zMl h_i) (zMk h_i) rfl (rfl) ?_
          refine zU_iload_n d_A_isMarked_27 rfl ?_
          refine zU_iload_n d_A_isMarked_28 rfl ?_
          refine zU_callSi [zi (c : Int), zi (i : Int)] d_A_isMarked_29 k_A_60 rfl (by decide) (Nat.le_of_ble_eq_true rfl) (fun l => m_A_stateIn l μ hv.1 h_i) (fun r29 μ29 h29 => ?_)
          obtain ⟨hμ29, rfl⟩ := h29
          replace hμ29 := hμ29.symm
          subst hμ29
          refine zU_callSi [zi (μ (3 + 3 * i) 3), zi ((dig c i : Int))] d_A_isMarked_32 k_A_32 rfl (by decide) (Nat.le_of_ble_eq_true rfl) (fun l => m_C_hasBit l μ _ (dig c i) (hA i (by omega)).2.2.2.1.1 (by omega)) (fun r32 μ32 h32 => ?_)
          obtain ⟨hμ32, rfl⟩ := h32
          replace hμ32 := hμ32.symm
          subst hμ32
          refine zU_if_ne 40 d_A_isMarked_35 (by decide) (zBr _) (fun h35 => ?_) (fun h35 => ?_)
          · refine zU_iinc d_A_isMarked_40 rfl ?_
            refine zU.eqL (L' := [some (zp 1), some (zi (c : Int)), some (zi m), some (zi (((i + 1 : Nat) : Int)))]) (by first | rfl | (show _ = _; simp only [List.set]; congr 3; omega)) ?_
            refine zU_goto 2 d_A_isMarked_43 (by decide) ?_
            exact ih2 (d - 1) (by omega) (i + 1) (by omega) (zrd hb (by rw [← (hA i (by omega)).2.2.2.1.2 _ hdi, zB_nz.mp h35, Bool.or_true]))
          · refine zU_iconst d_A_isMarked_38 ?_
            exact zU_ireturn d_A_isMarked_39 (Or.inr ⟨rfl, by omega⟩) (by decide) (by decide) (⟨_, rfl, rfl, by rw [eq_comm, zB_zero]; unfold aGoal; rw [all_not (i := i) (by omega) (by rw [← hm.2 i h_i, zB_nz.mp h15, ← (hA i (by omega)).2.2.2.1.2 _ hdi, zB_zero.mp h35]; rfl)]⟩)
  exact hJ2 (aN a) 0 (by omega) (fun j h => absurd h (by omega))
set_option maxRecDepth 100000 in
set_option maxHeartbeats 4000000 in
theorem m_A_isForbidden (l : Launch) (μ : zM) {a : aT} (ha : aOk a) (hc : cRep a μ) {m : Int} {mem : Nat → Bool} (hm : zmask 4 m mem) {c : Nat} (hv : aVal a mem c) :
    zC l y_A_isForbidden b_A_isForbidden 4 (some .boolean) [] 1 0 21 true [zp 1, zi (c : Int), zi m] μ (zRi (fun r μ' => μ' = μ ∧ r = zB (aBad a mem c))) := by
  refine zC.of (own := n_A) (L := [some (zp 1), some (zi (c : Int)), some (zi m), none]) (by decide) rfl (by simp [zcat]) (Nat.le_of_ble_eq_true rfl) rfl (fun Γ => ?_)
  obtain ⟨hN, hD, hCt, hA⟩ := id hc
  have hN4 := ha.1
  refine zU_iconst d_A_isForbidden_0 ?_
  refine zU_istore_n d_A_isForbidden_1 (by decide) ?_
  refine zU.eqL (L' := [some (zp 1), some (zi (c : Int)), some (zi m), some (zi 0)]) rfl ?_
  have hJ2 : ∀ (d : Nat) (i : Nat), i + d = aN a → (∀ j, j < i → (mem j && aF a j (dig c j)) = false) → zU Γ b_A_isForbidden n_A 4 (some .boolean) [] (zRm 1 0 21) 0 0 (zFin Γ 0 true (zRi (fun r μ' => μ' = μ ∧ r = zB (aBad a mem c)))) true 0 μ 2 [some (zp 1), some (zi (c : Int)), some (zi m), some (zi (i : Int))] [] := by
    intro d
    induction d using Nat.strongRecOn with
    | _ d ih2 =>
      intro i hd hb
      refine zU_iload_n d_A_isForbidden_2 rfl ?_
      refine zU_aload_n d_A_isForbidden_3 rfl ?_
      refine zU_getI (v := (aN a : Int)) d_A_isForbidden_4 f_A_18 (by decide) rfl rfl (hN) ?_
      refine zU_icmp_ge 46 d_A_isForbidden_7 (by decide) (by omega) (by omega) (fun h7 => ?_) (fun h7 => ?_)
      · refine zU_iconst d_A_isForbidden_46 ?_
        exact zU_ireturn d_A_isForbidden_47 (Or.inr ⟨rfl, by omega⟩) (by decide) (by decide) (⟨_, rfl, rfl, by rw [eq_comm, zB_zero]; unfold aBad; have hi : i = aN a := (by omega); subst hi; exact any_not hb⟩)
      · have h_i : i < 4 := by omega
        refine zU_iload_n d_A_isForbidden_10 rfl ?_
        refine zU_iload_n d_A_isForbidden_11 rfl ?_
        refine zU_callSi [zi m, zi (i : Int)] d_A_isForbidden_12 k_A_32 rfl (by decide) (Nat.le_of_ble_eq_true rfl) (fun l => m_C_hasBit l μ m i hm.1 (by omega)) (fun r12 μ12 h12 => ?_)
        obtain ⟨hμ12, rfl⟩ := h12
        replace hμ12 := hμ12.symm
        subst hμ12
        refine zU_if_eq 40 d_A_isForbidden_15 (by decide) (zBr _) (fun h15 => ?_) (fun h15 => ?_)
        · refine zU_iinc d_A_isForbidden_40 rfl ?_
          refine zU.eqL (L' := [some (zp 1), some (zi (c : Int)), some (zi m), some (zi (((i + 1 : Nat) : Int)))]) (by first | rfl | (show _ = _; simp only [List.set]; congr 3; omega)) ?_
          refine zU_goto 2 d_A_isForbidden_43 (by decide) ?_
          exact ih2 (d - 1) (by omega) (i + 1) (by omega) (zrn hb (by rw [← hm.2 i h_i, zB_zero.mp h15]; rfl))
        · have hdi : dig c i < 6 := by have := hv.2 i (by omega) (by rw [← hm.2 i h_i]; exact zB_nz.mp h15); have := (ha.2 i (by omega)).1; omega
          refine zU_aload_n d_A_isForbidden_18 rfl ?_
          refine zU_getR 2 d_A_isForbidden_19 f_A_11 (by decide) rfl rfl rfl ?_
          refine zU_iload_n d_A_isForbidden_22 rfl ?_
          refine zU_aald (3 + 3 * i) d_A_isForbidden_23 (by decide) rfl (by decide) (by omega) (zRn h_i) ?_
          refine zU_getI (v := μ (3 + 3 * i) 4) d_A_isForbidden_24 f_A_64 (zMl h_i) (zMk h_i) rfl (rfl) ?_
          refine zU_iload_n d_A_isForbidden_27 rfl ?_
          refine zU_iload_n d_A_isForbidden_28 rfl ?_
          refine zU_callSi [zi (c : Int), zi (i : Int)] d_A_isForbidden_29 k_A_60 rfl (by decide) (Nat.le_of_ble_eq_true rfl) (fun l => m_A_stateIn l μ hv.1 h_i) (fun r29 μ29 h29 => ?_)
          obtain ⟨hμ29, rfl⟩ := h29
          replace hμ29 := hμ29.symm
          subst hμ29
          refine zU_callSi [zi (μ (3 + 3 * i) 4), zi ((dig c i : Int))] d_A_isForbidden_32 k_A_32 rfl (by decide) (Nat.le_of_ble_eq_true rfl) (fun l => m_C_hasBit l μ _ (dig c i) (hA i (by omega)).2.2.2.2.1.1 (by omega)) (fun r32 μ32 h32 => ?_)
          obtain ⟨hμ32, rfl⟩ := h32
          replace hμ32 := hμ32.symm
          subst hμ32
          refine zU_if_eq 40 d_A_isForbidden_35 (by decide) (zBr _) (fun h35 => ?_) (fun h35 => ?_)
          · refine zU_iinc d_A_isForbidden_40 rfl ?_
            refine zU.eqL (L' := [some (zp 1), some (zi (c : Int)), some (zi m), some (zi (((i + 1 : Nat) : Int)))]) (by first | rfl | (show _ = _; simp only [List.set]; congr 3; omega)) ?_
            refine zU_goto 2 d_A_isForbidden_43 (by decide) ?_
            exact ih2 (d - 1) (by omega) (i + 1) (by omega) (zrn hb (by rw [← (hA i (by omega)).2.2.2.2.1.2 _ hdi, zB_zero.mp h35, Bool.and_false]))
          · refine zU_iconst d_A_isForbidden_38 ?_
            exact zU_ireturn d_A_isForbidden_39 (Or.inr ⟨rfl, by omega⟩) (by decide) (by decide) (⟨_, rfl, rfl, by rw [eq_comm, zB_one]; unfold aBad; exact any_iff.mpr ⟨i, by omega, by rw [← hm.2 i h_i, zB_nz.mp h15, ← (hA i (by omega)).2.2.2.2.1.2 _ hdi, zB_nz.mp h35]; rfl⟩⟩)
  exact hJ2 (aN a) 0 (by omega) (fun j h => absurd h (by omega))
set_option maxRecDepth 100000 in
set_option maxHeartbeats 4000000 in
theorem m_A_eventsNotStopped (l : Launch) (μ : zM) {a : aT} (ha : aOk a) (hc : cRep a μ) {m : Int} {mem : Nat → Bool} (hm : zmask 4 m mem) {c : Nat} (hv : aVal a mem c) :
    zC l y_A_eventsNotStopped b_A_eventsNotStopped 5 (some .int) [] 1 0 21 true [zp 1, zi (c : Int), zi m] μ (zRi (fun r μ' => μ' = μ ∧ (-2147483648 ≤ r ∧ r ≤ 2147483647) ∧ ∀ e, e < 12 → zbt r e = aFree a mem c e)) := by
  refine zC.of (own := n_A) (L := [some (zp 1), some (zi (c : Int)), some (zi m), none, none]) (by decide) rfl (by simp [zcat]) (Nat.le_of_ble_eq_true rfl) rfl (fun Γ => ?_)
  obtain ⟨hN, hD, hCt, hA⟩ := id hc
  have hN4 := ha.1
  refine zU_sipush d_A_eventsNotStopped_0 (by decide) ?_
  refine zU_istore_n d_A_eventsNotStopped_3 (by decide) ?_
  refine zU.eqL (L' := [some (zp 1), some (zi (c : Int)), some (zi m), some (zi 4095), none]) rfl ?_
  refine zU_iconst d_A_eventsNotStopped_4 ?_
  refine zU_istore d_A_eventsNotStopped_5 (by decide) ?_
  refine zU.eqL (L' := [some (zp 1), some (zi (c : Int)), some (zi m), some (zi 4095), some (zi 0)]) rfl ?_
  have hJ7 : ∀ (d : Nat) (i : Nat) (x : Int), i + d = aN a → (-2147483648 ≤ x ∧ x ≤ 2147483647) → (∀ e, e < 12 → zbt x e = (List.range i).all (fun i => !mem i || (!aH a i e || decide (0 ≤ aE a i (dig c i) e)))) → zU Γ b_A_eventsNotStopped n_A 5 (some .int) [] (zRm 1 0 21) 0 0 (zFin Γ 0 true (zRi (fun r μ' => μ' = μ ∧ (-2147483648 ≤ r ∧ r ≤ 2147483647) ∧ ∀ e, e < 12 → zbt r e = aFree a mem c e))) true 0 μ 7 [some (zp 1), some (zi (c : Int)), some (zi m), some (zi x), some (zi (i : Int))] [] := by
    intro d
    induction d using Nat.strongRecOn with
    | _ d ih7 =>
      intro i x hd hx hb
      refine zU_iload d_A_eventsNotStopped_7 rfl ?_
      refine zU_aload_n d_A_eventsNotStopped_9 rfl ?_
      refine zU_getI (v := (aN a : Int)) d_A_eventsNotStopped_10 f_A_18 (by decide) rfl rfl (hN) ?_
      refine zU_icmp_ge 50 d_A_eventsNotStopped_13 (by decide) (by omega) (by omega) (fun h13 => ?_) (fun h13 => ?_)
      · refine zU_iload_n d_A_eventsNotStopped_50 rfl ?_
        exact zU_ireturn d_A_eventsNotStopped_51 (Or.inl rfl) (by decide) (by decide) (⟨_, rfl, rfl, hx, by have hi : i = aN a := (by omega); subst hi; exact hb⟩)
      · have h_i : i < 4 := by omega
        refine zU_iload_n d_A_eventsNotStopped_16 rfl ?_
        refine zU_iload d_A_eventsNotStopped_17 rfl ?_
        refine zU_callSi [zi m, zi (i : Int)] d_A_eventsNotStopped_19 k_A_32 rfl (by decide) (Nat.le_of_ble_eq_true rfl) (fun l => m_C_hasBit l μ m i hm.1 (by omega)) (fun r19 μ19 h19 => ?_)
        obtain ⟨hμ19, rfl⟩ := h19
        replace hμ19 := hμ19.symm
        subst hμ19
        refine zU_if_eq 44 d_A_eventsNotStopped_22 (by decide) (zBr _) (fun h22 => ?_) (fun h22 => ?_)
        · refine zU_iinc d_A_eventsNotStopped_44 rfl ?_
          refine zU.eqL (L' := [some (zp 1), some (zi (c : Int)), some (zi m), some (zi x), some (zi (((i + 1 : Nat) : Int)))]) (by first | rfl | (show _ = _; simp only [List.set]; congr 3; omega)) ?_
          refine zU_goto 7 d_A_eventsNotStopped_47 (by decide) ?_
          exact ih7 (d - 1) (by omega) (i + 1) _ (by omega) hx (fun e he => by rw [rng_all, hb e he, ← hm.2 i h_i, zB_zero.mp h22]; simp)
        · have hdi : dig c i < 6 := by have := hv.2 i (by omega) (by rw [← hm.2 i h_i]; exact zB_nz.mp h22); have := (ha.2 i (by omega)).1; omega
          refine zU_iload_n d_A_eventsNotStopped_25 rfl ?_
          refine zU_aload_n d_A_eventsNotStopped_26 rfl ?_
          refine zU_getR 2 d_A_eventsNotStopped_27 f_A_11 (by decide) rfl rfl rfl ?_
          refine zU_iload d_A_eventsNotStopped_30 rfl ?_
          refine zU_aald (3 + 3 * i) d_A_eventsNotStopped_32 (by decide) rfl (by decide) (by omega) (zRn h_i) ?_
          refine zU_iload_n d_A_eventsNotStopped_33 rfl ?_
          refine zU_iload d_A_eventsNotStopped_34 rfl ?_
          refine zU_callSi [zi (c : Int), zi (i : Int)] d_A_eventsNotStopped_36 k_A_60 rfl (by decide) (Nat.le_of_ble_eq_true rfl) (fun l => m_A_stateIn l μ hv.1 h_i) (fun r36 μ36 h36 => ?_)
          obtain ⟨hμ36, rfl⟩ := h36
          replace hμ36 := hμ36.symm
          subst hμ36
          refine zU_callVi (p0 := (3 + 3 * i)) [zi ((dig c i : Int))] d_A_eventsNotStopped_39 k_A_70 rfl (zMl h_i) (zMk h_i) rfl (by decide) (Nat.le_of_ble_eq_true rfl) (fun l => m_M_eventsNotStopped l μ h_i hdi) (fun r39 μ39 h39 => ?_)
          obtain ⟨hμ39, hr39, he39⟩ := h39
          replace hμ39 := hμ39.symm
          subst hμ39
          refine zU_iand d_A_eventsNotStopped_42 ?_
          refine zU_istore_n d_A_eventsNotStopped_43 (by decide) ?_
          refine zU.eqL (L' := [some (zp 1), some (zi (c : Int)), some (zi m), some (zi (zand x (r39))), some (zi (i : Int))]) rfl ?_
          refine zU_iinc d_A_eventsNotStopped_44 rfl ?_
          refine zU.eqL (L' := [some (zp 1), some (zi (c : Int)), some (zi m), some (zi (zand x (r39))), some (zi (((i + 1 : Nat) : Int)))]) (by first | rfl | (show _ = _; simp only [List.set]; congr 3; omega)) ?_
          refine zU_goto 7 d_A_eventsNotStopped_47 (by decide) ?_
          exact ih7 (d - 1) (by omega) (i + 1) _ (by omega) (zand_r _ _) (fun e he => by rw [rng_all, zbt_and, hb e he, evS ha (hA i (by omega)) hdi he39 e he, ← hm.2 i h_i, zB_nz.mp h22]; simp)
  exact hJ7 (aN a) 0 4095 (by omega) (by omega) (fun e he => by rw [z4095 e he]; rfl)
end
section
theorem aFirst_lt {a : aT} (ha : aOk a) (mem : Nat → Bool) (j : Nat) : aFirst a mem j < 8 := by
  unfold aFirst
  split
  · next h =>
    have h1 := (ha.2 j h.1).1
    have h2 := (ha.2 j h.1).2.1
    omega
  · omega
theorem fcS0 {f : Nat → Nat} {i c : Nat} (h : c = cod (fun j => if j < i then f j else 0)) (hf : f i = 0) : c = cod (fun j => if j < i + 1 then f j else 0) := by
  rw [h]
  apply cod_congr
  intro j _
  by_cases h1 : j = i
  · subst h1; simp [hf]
  · have : (j < i + 1) ↔ (j < i) := by omega
    simp [this]
theorem fcS1 {f : Nat → Nat} {i c : Nat} (hlt : ∀ j, f j < 8) (h : c = cod (fun j => if j < i then f j else 0)) : cod (fun j => if j = i then f i else dig c j) = cod (fun j => if j < i + 1 then f j else 0) := by
  apply cod_congr
  intro j hj
  rw [h, dig_cod (fun k _ => by split; exact hlt k; omega) hj]
  by_cases h1 : j = i
  · subst h1; simp
  · have : (j < i + 1) ↔ (j < i) := by omega
    simp [h1, this]
theorem aStep_lt {a : aT} (ha : aOk a) (mem : Nat → Bool) {c : Nat} (hv : aVal a mem c) {e : Nat} (he : e < 12) (j : Nat) : aStep a mem c e j < 8 := by
  unfold aStep
  split
  · next h =>
    have h1 := (ha.2 j h.1).1
    have h4 := hv.2 j h.1 h.2.1
    have h2 := ((ha.2 j h.1).2.2 (dig c j) e (by omega) he).1
    omega
  · exact dig_lt _ _
theorem stS0 {f : Nat → Nat} {i c x : Nat} (h : x = cod (fun j => if j < i then f j else dig c j)) (hf : f i = dig c i) : x = cod (fun j => if j < i + 1 then f j else dig c j) := by
  rw [h]
  apply cod_congr
  intro j _
  by_cases h1 : j = i
  · subst h1; simp [hf]
  · have : (j < i + 1) ↔ (j < i) := by omega
    simp [this]
theorem stS1 {f : Nat → Nat} {i c x : Nat} (hlt : ∀ j, f j < 8) (h : x = cod (fun j => if j < i then f j else dig c j)) : cod (fun j => if j = i then f i else dig x j) = cod (fun j => if j < i + 1 then f j else dig c j) := by
  apply cod_congr
  intro j hj
  rw [h, dig_cod (fun k _ => by split; exact hlt k; exact dig_lt _ _) hj]
  by_cases h1 : j = i
  · subst h1; simp
  · have : (j < i + 1) ↔ (j < i) := by omega
    simp [h1, this]
set_option maxRecDepth 100000 in
set_option maxHeartbeats 4000000 in
theorem m_A_firstCode (l : Launch) (μ : zM) {a : aT} (ha : aOk a) (hc : cRep a μ) {m : Int} {mem : Nat → Bool} (hm : zmask 4 m mem) (hI : ∀ i, i < aN a → mem i = true → 0 ≤ aI a i) :
    zC l y_A_firstCode b_A_firstCode 4 (some .int) [] 1 0 23 true [zp 1, zi m] μ (zRi (fun r μ' => μ' = μ ∧ r = ((cod (aFirst a mem) : Nat) : Int))) := by
  refine zC.of (own := n_A) (L := [some (zp 1), some (zi m), none, none]) (by decide) rfl (by simp [zcat]) (Nat.le_of_ble_eq_true rfl) rfl (fun Γ => ?_)
  obtain ⟨hN, hD, hCt, hA⟩ := id hc
  have hN4 := ha.1
  refine zU_iconst d_A_firstCode_0 ?_
  refine zU_istore_n d_A_firstCode_1 (by decide) ?_
  refine zU.eqL (L' := [some (zp 1), some (zi m), some (zi 0), none]) rfl ?_
  refine zU_iconst d_A_firstCode_2 ?_
  refine zU_istore_n d_A_firstCode_3 (by decide) ?_
  refine zU.eqL (L' := [some (zp 1), some (zi m), some (zi 0), some (zi 0)]) rfl ?_
  have hJ4 : ∀ (d : Nat) (i c : Nat), i + d = aN a → c = cod (fun j => if j < i then aFirst a mem j else 0) → zU Γ b_A_firstCode n_A 4 (some .int) [] (zRm 1 0 23) 0 0 (zFin Γ 0 true (zRi (fun r μ' => μ' = μ ∧ r = ((cod (aFirst a mem) : Nat) : Int)))) true 0 μ 4 [some (zp 1), some (zi m), some (zi (c : Int)), some (zi (i : Int))] [] := by
    intro d
    induction d using Nat.strongRecOn with
    | _ d ih4 =>
      intro i c hd hb
      have hc4 : c < 4096 := by rw [hb]; exact cod_lt (fun k _ => by split; exact aFirst_lt ha mem k; omega)
      refine zU_iload_n d_A_firstCode_4 rfl ?_
      refine zU_aload_n d_A_firstCode_5 rfl ?_
      refine zU_getI (v := (aN a : Int)) d_A_firstCode_6 f_A_18 (by decide) rfl rfl (hN) ?_
      refine zU_icmp_ge 41 d_A_firstCode_9 (by decide) (by omega) (by omega) (fun h9 => ?_) (fun h9 => ?_)
      · refine zU_iload_n d_A_firstCode_41 rfl ?_
        exact zU_ireturn d_A_firstCode_42 (Or.inl rfl) (by decide) (by decide) (⟨_, rfl, rfl, by rw [hb]; congr 1; apply cod_congr; intro j hj; by_cases h1 : j < i; { simp [h1] }; { have h2 : ¬ j < aN a := (by omega); simp [h1, aFirst, h2] }⟩)
      · have h_i : i < 4 := by omega
        refine zU_iload_n d_A_firstCode_12 rfl ?_
        refine zU_iload_n d_A_firstCode_13 rfl ?_
        refine zU_callSi [zi m, zi (i : Int)] d_A_firstCode_14 k_A_32 rfl (by decide) (Nat.le_of_ble_eq_true rfl) (fun l => m_C_hasBit l μ m i hm.1 (by omega)) (fun r14 μ14 h14 => ?_)
        obtain ⟨hμ14, rfl⟩ := h14
        replace hμ14 := hμ14.symm
        subst hμ14
        refine zU_if_eq 35 d_A_firstCode_17 (by decide) (zBr _) (fun h17 => ?_) (fun h17 => ?_)
        · refine zU_iinc d_A_firstCode_35 rfl ?_
          refine zU.eqL (L' := [some (zp 1), some (zi m), some (zi (c : Int)), some (zi (((i + 1 : Nat) : Int)))]) (by first | rfl | (show _ = _; simp only [List.set]; congr 3; omega)) ?_
          refine zU_goto 4 d_A_firstCode_38 (by decide) ?_
          exact ih4 (d - 1) (by omega) (i + 1) c (by omega) (fcS0 hb (by unfold aFirst; rw [if_neg (fun h => by have h9 := h.2; rw [← hm.2 i h_i, zB_zero.mp h17] at h9; cases h9)]))
        · have hmi : mem i = true := by rw [← hm.2 i h_i]; exact zB_nz.mp h17
          have hIi := hI i (by omega) hmi
          have hfi : aFirst a mem i = (aI a i).toNat := by unfold aFirst; rw [if_pos ⟨by omega, hmi⟩]
          have hf8 := aFirst_lt ha mem i
          refine zU_iload_n d_A_firstCode_20 rfl ?_
          refine zU_iload_n d_A_firstCode_21 rfl ?_
          refine zU_aload_n d_A_firstCode_22 rfl ?_
          refine zU_getR 2 d_A_firstCode_23 f_A_11 (by decide) rfl rfl rfl ?_
          refine zU_iload_n d_A_firstCode_26 rfl ?_
          refine zU_aald (3 + 3 * i) d_A_firstCode_27 (by decide) rfl (by decide) (by omega) (zRn h_i) ?_
          refine zU_getI (v := ((aFirst a mem i : Nat) : Int)) d_A_firstCode_28 f_A_46 (zMl h_i) (zMk h_i) rfl ((hA i (by omega)).2.2.1.trans (by omega)) ?_
          refine zU_callSi [zi (c : Int), zi (i : Int), zi (((aFirst a mem i : Nat) : Int))] d_A_firstCode_31 k_A_53 rfl (by decide) (Nat.le_of_ble_eq_true rfl) (fun l => m_A_withState l μ hc4 h_i hf8) (fun r31 μ31 h31 => ?_)
          obtain ⟨hμ31, hr31⟩ := h31
          rw [fcS1 (aFirst_lt ha mem) hb] at hr31
          subst hr31
          replace hμ31 := hμ31.symm
          subst hμ31
          refine zU_istore_n d_A_firstCode_34 (by decide) ?_
          refine zU.eqL (L' := [some (zp 1), some (zi m), some (zi (((cod (fun j => if j < i + 1 then aFirst a mem j else 0) : Nat) : Int))), some (zi (i : Int))]) rfl ?_
          refine zU_iinc d_A_firstCode_35 rfl ?_
          refine zU.eqL (L' := [some (zp 1), some (zi m), some (zi (((cod (fun j => if j < i + 1 then aFirst a mem j else 0) : Nat) : Int))), some (zi (((i + 1 : Nat) : Int)))]) (by first | rfl | (show _ = _; simp only [List.set]; congr 3; omega)) ?_
          refine zU_goto 4 d_A_firstCode_38 (by decide) ?_
          exact ih4 (d - 1) (by omega) (i + 1) _ (by omega) rfl
  exact hJ4 (aN a) 0 0 (by omega) rfl
set_option maxRecDepth 100000 in
set_option maxHeartbeats 4000000 in
theorem m_A_eventsOfPlants (l : Launch) (μ : zM) {a : aT} (ha : aOk a) (hc : cRep a μ) {c : Nat} (hv : aVal a (aP a) c) :
    zC l y_A_eventsOfPlants b_A_eventsOfPlants 5 (some .int) [] 1 0 21 true [zp 1, zi (c : Int)] μ (zRi (fun r μ' => μ' = μ ∧ (-2147483648 ≤ r ∧ r ≤ 2147483647) ∧ ∀ e, e < 12 → zbt r e = aMay a c e)) := by
  refine zC.of (own := n_A) (L := [some (zp 1), some (zi (c : Int)), none, none, none]) (by decide) rfl (by simp [zcat]) (Nat.le_of_ble_eq_true rfl) rfl (fun Γ => ?_)
  obtain ⟨hN, hD, hCt, hA⟩ := id hc
  have hN4 := ha.1
  refine zU_iconst d_A_eventsOfPlants_0 ?_
  refine zU_istore_n d_A_eventsOfPlants_1 (by decide) ?_
  refine zU.eqL (L' := [some (zp 1), some (zi (c : Int)), some (zi 0), none, none]) rfl ?_
  refine zU_sipush d_A_eventsOfPlants_2 (by decide) ?_
  refine zU_istore_n d_A_eventsOfPlants_5 (by decide) ?_
  refine zU.eqL (L' := [some (zp 1), some (zi (c : Int)), some (zi 0), some (zi 4095), none]) rfl ?_
  refine zU_iconst d_A_eventsOfPlants_6 ?_
  refine zU_istore d_A_eventsOfPlants_7 (by decide) ?_
  refine zU.eqL (L' := [some (zp 1), some (zi (c : Int)), some (zi 0), some (zi 4095), some (zi 0)]) rfl ?_
  have hJ9 : ∀ (d : Nat) (i : Nat) (x z : Int), i + d = aN a → (∀ e, e < 12 → zbt x e = (List.range i).any (fun i => aP a i && aH a i e)) → (∀ e, e < 12 → zbt z e = (List.range i).all (fun i => !aP a i || (!aH a i e || decide (0 ≤ aE a i (dig c i) e)))) → zU Γ b_A_eventsOfPlants n_A 5 (some .int) [] (zRm 1 0 21) 0 0 (zFin Γ 0 true (zRi (fun r μ' => μ' = μ ∧ (-2147483648 ≤ r ∧ r ≤ 2147483647) ∧ ∀ e, e < 12 → zbt r e = aMay a c e))) true 0 μ 9 [some (zp 1), some (zi (c : Int)), some (zi x), some (zi z), some (zi (i : Int))] [] := by
    intro d
    induction d using Nat.strongRecOn with
    | _ d ih9 =>
      intro i x z hd hx hz
      refine zU_iload d_A_eventsOfPlants_9 rfl ?_
      refine zU_aload_n d_A_eventsOfPlants_11 rfl ?_
      refine zU_getI (v := (aN a : Int)) d_A_eventsOfPlants_12 f_A_18 (by decide) rfl rfl (hN) ?_
      refine zU_icmp_ge 69 d_A_eventsOfPlants_15 (by decide) (by omega) (by omega) (fun h15 => ?_) (fun h15 => ?_)
      · refine zU_iload_n d_A_eventsOfPlants_69 rfl ?_
        refine zU_iload_n d_A_eventsOfPlants_70 rfl ?_
        refine zU_iand d_A_eventsOfPlants_71 ?_
        exact zU_ireturn d_A_eventsOfPlants_72 (Or.inl rfl) (by decide) (by decide) (⟨_, rfl, rfl, zand_r _ _, fun e he => by have hi : i = aN a := (by omega); subst hi; rw [zbt_and, hx e he, hz e he]; rfl⟩)
      · have h_i : i < 4 := by omega
        refine zU_aload_n d_A_eventsOfPlants_18 rfl ?_
        refine zU_getR 2 d_A_eventsOfPlants_19 f_A_11 (by decide) rfl rfl rfl ?_
        refine zU_iload d_A_eventsOfPlants_22 rfl ?_
        refine zU_aald (3 + 3 * i) d_A_eventsOfPlants_24 (by decide) rfl (by decide) (by omega) (zRn h_i) ?_
        refine zU_getI (v := zB (!aP a i)) d_A_eventsOfPlants_25 f_A_43 (zMl h_i) (zMk h_i) rfl ((hA i (by omega)).2.1.trans (kd _)) ?_
        refine zU_if_ne 63 d_A_eventsOfPlants_28 (by decide) (zBr _) (fun h28 => ?_) (fun h28 => ?_)
        · have hpi : aP a i = false := by simpa using zB_nz.mp h28
          refine zU_iinc d_A_eventsOfPlants_63 rfl ?_
          refine zU.eqL (L' := [some (zp 1), some (zi (c : Int)), some (zi x), some (zi z), some (zi (((i + 1 : Nat) : Int)))]) (by first | rfl | (show _ = _; simp only [List.set]; congr 3; omega)) ?_
          refine zU_goto 9 d_A_eventsOfPlants_66 (by decide) ?_
          exact ih9 (d - 1) (by omega) (i + 1) _ _ (by omega) (fun e he => by rw [rng_any, hx e he, hpi]; simp) (fun e he => by rw [rng_all, hz e he, hpi]; simp)
        · have hpi : aP a i = true := by simpa using zB_zero.mp h28
          have hdi : dig c i < 6 := by have := hv.2 i (by omega) hpi; have := (ha.2 i (by omega)).1; omega
          refine zU_iload_n d_A_eventsOfPlants_31 rfl ?_
          refine zU_aload_n d_A_eventsOfPlants_32 rfl ?_
          refine zU_getR 2 d_A_eventsOfPlants_33 f_A_11 (by decide) rfl rfl rfl ?_
          refine zU_iload d_A_eventsOfPlants_36 rfl ?_
          refine zU_aald (3 + 3 * i) d_A_eventsOfPlants_38 (by decide) rfl (by decide) (by omega) (zRn h_i) ?_
          refine zU_getI (v := μ (3 + 3 * i) 5) d_A_eventsOfPlants_39 f_A_67 (zMl h_i) (zMk h_i) rfl (rfl) ?_
          refine zU_ior d_A_eventsOfPlants_42 ?_
          refine zU_istore_n d_A_eventsOfPlants_43 (by decide) ?_
          refine zU.eqL (L' := [some (zp 1), some (zi (c : Int)), some (zi (zor x (μ (3 + 3 * i) 5))), some (zi z), some (zi (i : Int))]) rfl ?_
          refine zU_iload_n d_A_eventsOfPlants_44 rfl ?_
          refine zU_aload_n d_A_eventsOfPlants_45 rfl ?_
          refine zU_getR 2 d_A_eventsOfPlants_46 f_A_11 (by decide) rfl rfl rfl ?_
          refine zU_iload d_A_eventsOfPlants_49 rfl ?_
          refine zU_aald (3 + 3 * i) d_A_eventsOfPlants_51 (by decide) rfl (by decide) (by omega) (zRn h_i) ?_
          refine zU_iload_n d_A_eventsOfPlants_52 rfl ?_
          refine zU_iload d_A_eventsOfPlants_53 rfl ?_
          refine zU_callSi [zi (c : Int), zi (i : Int)] d_A_eventsOfPlants_55 k_A_60 rfl (by decide) (Nat.le_of_ble_eq_true rfl) (fun l => m_A_stateIn l μ hv.1 h_i) (fun r55 μ55 h55 => ?_)
          obtain ⟨hμ55, rfl⟩ := h55
          replace hμ55 := hμ55.symm
          subst hμ55
          refine zU_callVi (p0 := (3 + 3 * i)) [zi ((dig c i : Int))] d_A_eventsOfPlants_58 k_A_70 rfl (zMl h_i) (zMk h_i) rfl (by decide) (Nat.le_of_ble_eq_true rfl) (fun l => m_M_eventsNotStopped l μ h_i hdi) (fun r58 μ58 h58 => ?_)
          obtain ⟨hμ58, hr58, he58⟩ := h58
          replace hμ58 := hμ58.symm
          subst hμ58
          refine zU_iand d_A_eventsOfPlants_61 ?_
          refine zU_istore_n d_A_eventsOfPlants_62 (by decide) ?_
          refine zU.eqL (L' := [some (zp 1), some (zi (c : Int)), some (zi (zor x (μ (3 + 3 * i) 5))), some (zi (zand z (r58))), some (zi (i : Int))]) rfl ?_
          refine zU_iinc d_A_eventsOfPlants_63 rfl ?_
          refine zU.eqL (L' := [some (zp 1), some (zi (c : Int)), some (zi (zor x (μ (3 + 3 * i) 5))), some (zi (zand z (r58))), some (zi (((i + 1 : Nat) : Int)))]) (by first | rfl | (show _ = _; simp only [List.set]; congr 3; omega)) ?_
          refine zU_goto 9 d_A_eventsOfPlants_66 (by decide) ?_
          exact ih9 (d - 1) (by omega) (i + 1) _ _ (by omega) (fun e he => by rw [rng_any, zbt_or, hx e he, (hA i (by omega)).2.2.2.2.2.1.2 e he, hpi]; simp) (fun e he => by rw [rng_all, zbt_and, hz e he, evS ha (hA i (by omega)) hdi he58 e he, hpi]; simp)
  exact hJ9 (aN a) 0 0 4095 (by omega) (fun e he => by rw [zbt_zero]; rfl) (fun e he => by rw [z4095 e he]; rfl)
set_option maxRecDepth 100000 in
set_option maxHeartbeats 4000000 in
theorem m_A_step (l : Launch) (μ : zM) {a : aT} (ha : aOk a) (hc : cRep a μ) {m : Int} {mem : Nat → Bool} (hm : zmask 4 m mem) {c e : Nat} (hv : aVal a mem c) (he : e < 12) (hfr : ∀ i, i < aN a → mem i = true → aH a i e = true → 0 ≤ aE a i (dig c i) e) :
    zC l y_A_step b_A_step 6 (some .int) [] 1 0 23 true [zp 1, zi (c : Int), zi (e : Int), zi m] μ (zRi (fun r μ' => μ' = μ ∧ r = ((cod (aStep a mem c e) : Nat) : Int))) := by
  refine zC.of (own := n_A) (L := [some (zp 1), some (zi (c : Int)), some (zi (e : Int)), some (zi m), none, none]) (by decide) rfl (by simp [zcat]) (Nat.le_of_ble_eq_true rfl) rfl (fun Γ => ?_)
  obtain ⟨hN, hD, hCt, hA⟩ := id hc
  have hN4 := ha.1
  refine zU_iload_n d_A_step_0 rfl ?_
  refine zU_istore d_A_step_1 (by decide) ?_
  refine zU.eqL (L' := [some (zp 1), some (zi (c : Int)), some (zi (e : Int)), some (zi m), some (zi (c : Int)), none]) rfl ?_
  refine zU_iconst d_A_step_3 ?_
  refine zU_istore d_A_step_4 (by decide) ?_
  refine zU.eqL (L' := [some (zp 1), some (zi (c : Int)), some (zi (e : Int)), some (zi m), some (zi (c : Int)), some (zi 0)]) rfl ?_
  have hJ6 : ∀ (d : Nat) (i x : Nat), i + d = aN a → x = cod (fun j => if j < i then aStep a mem c e j else dig c j) → zU Γ b_A_step n_A 6 (some .int) [] (zRm 1 0 23) 0 0 (zFin Γ 0 true (zRi (fun r μ' => μ' = μ ∧ r = ((cod (aStep a mem c e) : Nat) : Int)))) true 0 μ 6 [some (zp 1), some (zi (c : Int)), some (zi (e : Int)), some (zi m), some (zi (x : Int)), some (zi (i : Int))] [] := by
    intro d
    induction d using Nat.strongRecOn with
    | _ d ih6 =>
      intro i x hd hb
      have hx4 : x < 4096 := by rw [hb]; exact cod_lt (fun k _ => by split; exact aStep_lt ha mem hv he k; exact dig_lt _ _)
      refine zU_iload d_A_step_6 rfl ?_
      refine zU_aload_n d_A_step_8 rfl ?_
      refine zU_getI (v := (aN a : Int)) d_A_step_9 f_A_18 (by decide) rfl rfl (hN) ?_
      refine zU_icmp_ge 73 d_A_step_12 (by decide) (by omega) (by omega) (fun h12 => ?_) (fun h12 => ?_)
      · refine zU_iload d_A_step_73 rfl ?_
        exact zU_ireturn d_A_step_75 (Or.inl rfl) (by decide) (by decide) (⟨_, rfl, rfl, by rw [hb]; congr 1; apply cod_congr; intro j hj; by_cases h1 : j < i; { simp [h1] }; { have h2 : ¬ j < aN a := (by omega); simp [h1, aStep, h2] }⟩)
      · have h_i : i < 4 := by omega
        refine zU_iload_n d_A_step_15 rfl ?_
        refine zU_iload d_A_step_16 rfl ?_
        refine zU_callSi [zi m, zi (i : Int)] d_A_step_18 k_A_32 rfl (by decide) (Nat.le_of_ble_eq_true rfl) (fun l => m_C_hasBit l μ m i hm.1 (by omega)) (fun r18 μ18 h18 => ?_)
        obtain ⟨hμ18, rfl⟩ := h18
        replace hμ18 := hμ18.symm
        subst hμ18
        refine zU_if_eq 67 d_A_step_21 (by decide) (zBr _) (fun h21 => ?_) (fun h21 => ?_)
        · refine zU_iinc d_A_step_67 rfl ?_
          refine zU.eqL (L' := [some (zp 1), some (zi (c : Int)), some (zi (e : Int)), some (zi m), some (zi (x : Int)), some (zi (((i + 1 : Nat) : Int)))]) (by first | rfl | (show _ = _; simp only [List.set]; congr 3; omega)) ?_
          refine zU_goto 6 d_A_step_70 (by decide) ?_
          exact ih6 (d - 1) (by omega) (i + 1) x (by omega) (stS0 hb (by unfold aStep; rw [if_neg (fun h => by have h9 := h.2.1; rw [← hm.2 i h_i, zB_zero.mp h21] at h9; cases h9)]))
        · have hmi : mem i = true := by rw [← hm.2 i h_i]; exact zB_nz.mp h21
          refine zU_aload_n d_A_step_24 rfl ?_
          refine zU_getR 2 d_A_step_25 f_A_11 (by decide) rfl rfl rfl ?_
          refine zU_iload d_A_step_28 rfl ?_
          refine zU_aald (3 + 3 * i) d_A_step_30 (by decide) rfl (by decide) (by omega) (zRn h_i) ?_
          refine zU_getI (v := μ (3 + 3 * i) 5) d_A_step_31 f_A_67 (zMl h_i) (zMk h_i) rfl (rfl) ?_
          refine zU_iload_n d_A_step_34 rfl ?_
          refine zU_callSi [zi (μ (3 + 3 * i) 5), zi (e : Int)] d_A_step_35 k_A_32 rfl (by decide) (Nat.le_of_ble_eq_true rfl) (fun l => m_C_hasBit l μ _ e (hA i (by omega)).2.2.2.2.2.1.1 (by omega)) (fun r35 μ35 h35 => ?_)
          obtain ⟨hμ35, rfl⟩ := h35
          replace hμ35 := hμ35.symm
          subst hμ35
          refine zU_if_eq 67 d_A_step_38 (by decide) (zBr _) (fun h38 => ?_) (fun h38 => ?_)
          · refine zU_iinc d_A_step_67 rfl ?_
            refine zU.eqL (L' := [some (zp 1), some (zi (c : Int)), some (zi (e : Int)), some (zi m), some (zi (x : Int)), some (zi (((i + 1 : Nat) : Int)))]) (by first | rfl | (show _ = _; simp only [List.set]; congr 3; omega)) ?_
            refine zU_goto 6 d_A_step_70 (by decide) ?_
            exact ih6 (d - 1) (by omega) (i + 1) x (by omega) (stS0 hb (by unfold aStep; rw [if_neg (fun h => by have h9 := h.2.2; rw [← (hA i (by omega)).2.2.2.2.2.1.2 e he, zB_zero.mp h38] at h9; cases h9)]))
          · have hhi : aH a i e = true := by rw [← (hA i (by omega)).2.2.2.2.2.1.2 e he]; exact zB_nz.mp h38
            have hdi : dig c i < 6 := by have := hv.2 i (by omega) hmi; have := (ha.2 i (by omega)).1; omega
            have hE := hfr i (by omega) hmi hhi
            have hfi : aStep a mem c e i = (aE a i (dig c i) e).toNat := by unfold aStep; rw [if_pos ⟨by omega, hmi, hhi⟩]
            have hf8 := aStep_lt ha mem hv he i
            refine zU_iload d_A_step_41 rfl ?_
            refine zU_iload d_A_step_43 rfl ?_
            refine zU_aload_n d_A_step_45 rfl ?_
            refine zU_getR 2 d_A_step_46 f_A_11 (by decide) rfl rfl rfl ?_
            refine zU_iload d_A_step_49 rfl ?_
            refine zU_aald (3 + 3 * i) d_A_step_51 (by decide) rfl (by decide) (by omega) (zRn h_i) ?_
            refine zU_iload_n d_A_step_52 rfl ?_
            refine zU_iload d_A_step_53 rfl ?_
            refine zU_callSi [zi (c : Int), zi (i : Int)] d_A_step_55 k_A_60 rfl (by decide) (Nat.le_of_ble_eq_true rfl) (fun l => m_A_stateIn l μ hv.1 h_i) (fun r55 μ55 h55 => ?_)
            obtain ⟨hμ55, rfl⟩ := h55
            replace hμ55 := hμ55.symm
            subst hμ55
            refine zU_iload_n d_A_step_58 rfl ?_
            refine zU_callVi (p0 := (3 + 3 * i)) [zi ((dig c i : Int)), zi (e : Int)] d_A_step_59 k_A_74 rfl (zMl h_i) (zMk h_i) rfl (by decide) (Nat.le_of_ble_eq_true rfl) (fun l => m_M_follow l μ h_i hdi he) (fun r59 μ59 h59 => ?_)
            obtain ⟨hμ59, hr59⟩ := h59
            rw [((hA i (by omega)).2.2.2.2.2.2 (dig c i) hdi).2 e he hE, show aE a i (dig c i) e = ((aStep a mem c e i : Nat) : Int) by omega] at hr59
            subst hr59
            replace hμ59 := hμ59.symm
            subst hμ59
            refine zU_callSi [zi (x : Int), zi (i : Int), zi (((aStep a mem c e i : Nat) : Int))] d_A_step_62 k_A_53 rfl (by decide) (Nat.le_of_ble_eq_true rfl) (fun l => m_A_withState l μ hx4 h_i hf8) (fun r62 μ62 h62 => ?_)
            obtain ⟨hμ62, hr62⟩ := h62
            rw [stS1 (aStep_lt ha mem hv he) hb] at hr62
            subst hr62
            replace hμ62 := hμ62.symm
            subst hμ62
            refine zU_istore d_A_step_65 (by decide) ?_
            refine zU.eqL (L' := [some (zp 1), some (zi (c : Int)), some (zi (e : Int)), some (zi m), some (zi (((cod (fun j => if j < i + 1 then aStep a mem c e j else dig c j) : Nat) : Int))), some (zi (i : Int))]) rfl ?_
            refine zU_iinc d_A_step_67 rfl ?_
            refine zU.eqL (L' := [some (zp 1), some (zi (c : Int)), some (zi (e : Int)), some (zi m), some (zi (((cod (fun j => if j < i + 1 then aStep a mem c e j else dig c j) : Nat) : Int))), some (zi (((i + 1 : Nat) : Int)))]) (by first | rfl | (show _ = _; simp only [List.set]; congr 3; omega)) ?_
            refine zU_goto 6 d_A_step_70 (by decide) ?_
            exact ih6 (d - 1) (by omega) (i + 1) _ (by omega) rfl
  exact hJ6 (aN a) 0 c (by omega) (by rw [show (fun j => if j < 0 then aStep a mem c e j else dig c j) = dig c from by funext j; simp]; exact (cod_dig hv.1).symm)
end
section
/-! changes of the automata -/
def aAdd (a : aT) (n : Nat) (p : Bool) : aT := (aN a + 1, fun i => if i = aN a then n else aS a i, fun i => if i = aN a then p else aP a i, fun i => if i = aN a then -1 else aI a i, fun i s => if i = aN a then false else aM a i s, fun i s => if i = aN a then false else aF a i s, fun i s e => if i = aN a then -1 else aE a i s e, aD a, aC a)
def aDecl (a : aT) (e : Nat) (b : Bool) : aT := (aN a, aS a, aP a, aI a, aM a, aF a, aE a, fun j => if j = e then true else aD a j, fun j => if j = e then b else aC a j)
def aEdge (a : aT) (i s e : Nat) (t : Int) : aT := (aN a, aS a, aP a, aI a, aM a, aF a, fun i' s' e' => if i' = i ∧ s' = s ∧ e' = e then t else aE a i' s' e', aD a, aC a)
def aIni (a : aT) (i : Nat) (v : Int) : aT := (aN a, aS a, aP a, fun j => if j = i then v else aI a j, aM a, aF a, aE a, aD a, aC a)
def aMrk (a : aT) (i s : Nat) (b : Bool) : aT := (aN a, aS a, aP a, aI a, fun i' s' => if i' = i ∧ s' = s then b else aM a i' s', aF a, aE a, aD a, aC a)
def aFbd (a : aT) (i s : Nat) (b : Bool) : aT := (aN a, aS a, aP a, aI a, aM a, fun i' s' => if i' = i ∧ s' = s then b else aF a i' s', aE a, aD a, aC a)
def aTell (a : aT) (i s w : Nat) (on : Bool) : aT := if w = 0 then (if on = true then aIni a i s else if aI a i = s then aIni a i (-1) else a) else if w = 1 then aMrk a i s on else aFbd a i s on
def aClr (a : aT) : aT := (0, aS a, aP a, aI a, aM a, aF a, aE a, fun _ => false, fun _ => false)
theorem cAut_congr {a a' : aT} {i : Nat} {μ μ' : zM} (h : cAut a i μ) (h0 : μ' (3 + 3 * i) = μ (3 + 3 * i)) (h1 : μ' (4 + 3 * i) = μ (4 + 3 * i)) (h2 : μ' (5 + 3 * i) = μ (5 + 3 * i))
    (e0 : aS a' i = aS a i) (e1 : aP a' i = aP a i) (e2 : aI a' i = aI a i) (e3 : aM a' i = aM a i) (e4 : aF a' i = aF a i) (e5 : aE a' i = aE a i) : cAut a' i μ' := by
  have e6 : aH a' i = aH a i := by funext e; simp [aH, e5]
  unfold cAut
  rw [h0, h1, h2, e0, e1, e2, e3, e4, e5, e6]
  exact h
theorem cRep_congr {a : aT} {μ μ' : zM} (h : cRep a μ) (hq : ∀ q, (q = 1 ∨ (3 ≤ q ∧ q ≤ 14)) → μ' q = μ q) (ha : aOk a) : cRep a μ' := by
  obtain ⟨h1, h2, h3, h4⟩ := h
  have e1 := hq 1 (Or.inl rfl)
  refine ⟨by rw [e1]; exact h1, by rw [e1]; exact h2, by rw [e1]; exact h3, fun i hi => ?_⟩
  have := ha.1
  exact cAut_congr (h4 i hi) (hq _ (Or.inr (by omega))) (hq _ (Or.inr (by omega))) (hq _ (Or.inr (by omega))) rfl rfl rfl rfl rfl rfl
theorem zmask_zero {n : Nat} {f : Nat → Bool} (h : ∀ j, j < n → f j = false) : zmask n 0 f := ⟨by omega, fun j hj => by rw [zbt_zero, h j hj]⟩
/-- an automaton that has just begun; the row of its events is cleared below j -/
def zBeg (μ : zM) (i : Nat) (n k : Int) (j : Nat) (μ1 : zM) : Prop := μ1 (3 + 3 * i) 0 = n ∧ μ1 (3 + 3 * i) 1 = k ∧ μ1 (3 + 3 * i) 2 = -1 ∧ μ1 (3 + 3 * i) 3 = 0 ∧ μ1 (3 + 3 * i) 4 = 0 ∧ μ1 (3 + 3 * i) 5 = 0 ∧ (∀ s, s < j → μ1 (4 + 3 * i) s = 0) ∧ ∀ q, q ≠ 3 + 3 * i → q ≠ 4 + 3 * i → μ1 q = μ q
theorem zBeg_step {μ μ1 : zM} {i j : Nat} {n k : Int} (h : zBeg μ i n k j μ1) : zBeg μ i n k (j + 1) (zup μ1 (4 + 3 * i) j 0) := by
  obtain ⟨h0, h1, h2, h3, h4, h5, h6, h7⟩ := h
  have hne : ¬ (3 + 3 * i = 4 + 3 * i) := by omega
  refine ⟨by rw [zup_ne _ _ _ hne]; exact h0, by rw [zup_ne _ _ _ hne]; exact h1, by rw [zup_ne _ _ _ hne]; exact h2, by rw [zup_ne _ _ _ hne]; exact h3, by rw [zup_ne _ _ _ hne]; exact h4, by rw [zup_ne _ _ _ hne]; exact h5, fun s hs => ?_, fun q hq1 hq2 => by rw [zup_ne _ _ _ hq2]; exact h7 q hq1 hq2⟩
  rw [zup_at]
  by_cases hsj : s = j
  · simp [hsj]
  · simp only [hsj, and_false, if_false]
    exact h6 s (by omega)
theorem cRep_add {a : aT} {μ μ1 : zM} {n : Nat} {p : Bool} (ha : aOk a) (hc : cRep a μ) (hN : aN a < 4) (hb : zBeg μ (aN a) n (zB (!p)) 6 μ1) : cRep (aAdd a n p) (zup μ1 1 1 ((aN a : Int) + 1)) := by
  obtain ⟨c1, c2, c3, c4⟩ := hc
  obtain ⟨h0, h1, h2, h3, h4, h5, h6, h7⟩ := hb
  have e1 : μ1 1 = μ 1 := h7 1 (by omega) (by omega)
  refine ⟨by rw [zup_at]; simp [aAdd, aN], by rw [zup_at]; simp only [show ¬ (2 = 1) by decide, and_false, if_false, e1]; exact c2, by rw [zup_at]; simp only [show ¬ (3 = 1) by decide, and_false, if_false, e1]; exact c3, fun i hi => ?_⟩
  have hi' : i < aN a + 1 := hi
  by_cases hiN : i = aN a
  · subst hiN
    have f0 : zup μ1 1 1 ((aN a : Int) + 1) (3 + 3 * aN a) = μ1 (3 + 3 * aN a) := zup_ne _ _ _ (by omega)
    have f1 : zup μ1 1 1 ((aN a : Int) + 1) (4 + 3 * aN a) = μ1 (4 + 3 * aN a) := zup_ne _ _ _ (by omega)
    have hE : ∀ s e, aE (aAdd a n p) (aN a) s e = -1 := fun s e => by simp [aAdd, aE]
    unfold cAut
    rw [f0, f1, h0, h1, h2, h3, h4, h5]
    refine ⟨by simp [aAdd, aS], by rw [kd]; simp [aAdd, aP], by simp [aAdd, aI], zmask_zero (fun j _ => by simp [aAdd, aM]), zmask_zero (fun j _ => by simp [aAdd, aF]), zmask_zero (fun e _ => any_not (fun s _ => by rw [hE]; rfl)), fun s hs => ⟨by rw [h6 s hs]; exact zmask_zero (fun e _ => by rw [hE]; rfl), fun e _ hp => ?_⟩⟩
    rw [hE] at hp
    omega
  · have hi2 : i < aN a := by omega
    refine cAut_congr (c4 i hi2) ?_ ?_ ?_ (by simp [aAdd, aS, hiN]) (by simp [aAdd, aP, hiN]) (by simp [aAdd, aI, hiN]) (by funext s; simp [aAdd, aM, hiN]) (by funext s; simp [aAdd, aF, hiN]) (by funext s e; simp [aAdd, aE, hiN])
    · rw [zup_ne _ _ _ (by omega)]; exact h7 _ (by omega) (by omega)
    · rw [zup_ne _ _ _ (by omega)]; exact h7 _ (by omega) (by omega)
    · rw [zup_ne _ _ _ (by omega)]; exact h7 _ (by omega) (by omega)
theorem aOk_add {a : aT} {n : Nat} {p : Bool} (ha : aOk a) (hN : aN a < 4) (hn : 1 ≤ n ∧ n ≤ 6) : aOk (aAdd a n p) := by
  refine ⟨by show aN a + 1 ≤ 4; omega, fun i hi => ?_⟩
  have hi' : i < aN a + 1 := hi
  by_cases hiN : i = aN a
  · subst hiN
    refine ⟨by simp [aAdd, aS]; omega, by simp [aAdd, aS, aI]; omega, fun s e hs he => ⟨by simp [aAdd, aE, aS]; omega, fun _ => by simp [aAdd, aE], fun h => ?_⟩⟩
    have : aE (aAdd a n p) (aN a) s e = -1 := by simp [aAdd, aE]
    omega
  · have := ha.2 i (by omega)
    simpa [aAdd, aS, aI, aE, aD, hiN] using this
set_option maxRecDepth 100000 in
set_option maxHeartbeats 4000000 in
theorem m_M_begin (l : Launch) (μ : zM) {i : Nat} {n k : Int} (h_i : i < 4) :
    zC l y_M_begin b_M_begin 4 none [] 0 0 0 false [zp (3 + 3 * i), zi n, zi k] μ (zRv (fun μ' => zBeg μ i n k 6 μ')) := by
  refine zC.of (own := n_M) (L := [some (zp (3 + 3 * i)), some (zi n), some (zi k), none]) (by decide) rfl (by simp [zcat]) (Nat.le_of_ble_eq_true rfl) rfl (fun Γ => ?_)
  refine zU_aload_n d_M_begin_0 rfl ?_
  refine zU_iload_n d_M_begin_1 rfl ?_
  refine zU_putI d_M_begin_2 f_M_18 p_M_states (zMl h_i) (zMk h_i) rfl (Or.inl rfl) ?_
  refine zU_aload_n d_M_begin_5 rfl ?_
  refine zU_iload_n d_M_begin_6 rfl ?_
  refine zU_putI d_M_begin_7 f_M_22 p_M_kind (zMl h_i) (zMk h_i) rfl (Or.inl rfl) ?_
  refine zU_aload_n d_M_begin_10 rfl ?_
  refine zU_iconst d_M_begin_11 ?_
  refine zU_putI d_M_begin_12 f_M_25 p_M_initial (zMl h_i) (zMk h_i) rfl (Or.inl rfl) ?_
  refine zU_aload_n d_M_begin_15 rfl ?_
  refine zU_iconst d_M_begin_16 ?_
  refine zU_putI d_M_begin_17 f_M_28 p_M_markedStates (zMl h_i) (zMk h_i) rfl (Or.inl rfl) ?_
  refine zU_aload_n d_M_begin_20 rfl ?_
  refine zU_iconst d_M_begin_21 ?_
  refine zU_putI d_M_begin_22 f_M_31 p_M_forbiddenStates (zMl h_i) (zMk h_i) rfl (Or.inl rfl) ?_
  refine zU_aload_n d_M_begin_25 rfl ?_
  refine zU_iconst d_M_begin_26 ?_
  refine zU_putI d_M_begin_27 f_M_34 p_M_events (zMl h_i) (zMk h_i) rfl (Or.inl rfl) ?_
  refine zU_iconst d_M_begin_30 ?_
  refine zU_istore_n d_M_begin_31 (by decide) ?_
  refine zU.eqL (L' := [some (zp (3 + 3 * i)), some (zi n), some (zi k), some (zi 0)]) rfl ?_
  have hJ32 : ∀ (d : Nat) (j : Nat) (μ1 : zM), j + d = 6 → zBeg μ i n k j μ1 → zU Γ b_M_begin n_M 4 none [] (zRm 0 0 0) 0 0 (zFin Γ 0 false (zRv (fun μ' => zBeg μ i n k 6 μ'))) false 0 μ1 32 [some (zp (3 + 3 * i)), some (zi n), some (zi k), some (zi (j : Int))] [] := by
    intro d
    induction d using Nat.strongRecOn with
    | _ d ih32 =>
      intro j μ1 hd hb
      refine zU_iload_n d_M_begin_32 rfl ?_
      refine zU_bipush d_M_begin_33 (by decide) ?_
      refine zU_icmp_ge 51 d_M_begin_35 (by decide) (by omega) (by omega) (fun h35 => ?_) (fun h35 => ?_)
      · exact zU_return d_M_begin_51 rfl (by decide) (by decide) (⟨rfl, by have hj : j = 6 := (by omega); subst hj; exact hb⟩)
      · refine zU_aload_n d_M_begin_38 rfl ?_
        refine zU_getR (4 + 3 * i) d_M_begin_39 f_M_9 (zMl h_i) (zMk h_i) rfl (zMr1 h_i) ?_
        refine zU_iload_n d_M_begin_42 rfl ?_
        refine zU_iconst d_M_begin_43 ?_
        refine zU_iast d_M_begin_44 (zMl1 h_i) (zMk1 h_i) (by decide) (by omega) ?_
        refine zU.eqM (μ' := zup μ1 (4 + 3 * i) j 0) rfl ?_
        refine zU_iinc d_M_begin_45 rfl ?_
        refine zU.eqL (L' := [some (zp (3 + 3 * i)), some (zi n), some (zi k), some (zi (((j + 1 : Nat) : Int)))]) (by first | rfl | (show _ = _; simp only [List.set]; congr 3; omega)) ?_
        refine zU_goto 32 d_M_begin_48 (by decide) ?_
        exact ih32 (d - 1) (by omega) (j + 1) _ (by omega) (zBeg_step hb)
  exact hJ32 6 0 _ (by omega) (by
    have hne : ¬ (4 + 3 * i = 3 + 3 * i) := by omega
    refine ⟨?_, ?_, ?_, ?_, ?_, ?_, fun s h => absurd h (by omega), fun q h1 h2 => ?_⟩
    · simp [zup_at]
    · simp [zup_at]
    · simp [zup_at]
    · simp [zup_at]
    · simp [zup_at]
    · simp [zup_at]
    · funext j; simp [zup_at, h1])
set_option maxRecDepth 100000 in
set_option maxHeartbeats 4000000 in
theorem m_A_add (l : Launch) (μ : zM) {a : aT} (ha : aOk a) (hc : cRep a μ) {n : Nat} {p : Bool} (hN4' : aN a < 4) (hn : 1 ≤ n ∧ n ≤ 6) :
    zC l y_A_add b_A_add 3 (some .int) [] 1 0 23 false [zp 1, zi (n : Int), zi (zB (!p))] μ (zRi (fun r μ' => r = aN a ∧ cRep (aAdd a n p) μ' ∧ ∀ q, q ≠ 1 → q ≠ 3 + 3 * aN a → q ≠ 4 + 3 * aN a → μ' q = μ q)) := by
  refine zC.of (own := n_A) (L := [some (zp 1), some (zi (n : Int)), some (zi (zB (!p)))]) (by decide) rfl (by simp [zcat]) (Nat.le_of_ble_eq_true rfl) rfl (fun Γ => ?_)
  obtain ⟨hN, hD, hCt, hA⟩ := id hc
  have hN4 := ha.1
  obtain ⟨w, hw⟩ : ∃ w, w = aN a := ⟨_, rfl⟩
  have h_w : w < 4 := by omega
  refine zU_aload_n d_A_add_0 rfl ?_
  refine zU_getR 2 d_A_add_1 f_A_11 (by decide) rfl rfl rfl ?_
  refine zU_aload_n d_A_add_4 rfl ?_
  refine zU_getI (v := (w : Int)) d_A_add_5 f_A_18 (by decide) rfl rfl (hN.trans (by rw [hw])) ?_
  refine zU_aald (3 + 3 * w) d_A_add_8 (by decide) rfl (by decide) (by omega) (zRn h_w) ?_
  refine zU_iload_n d_A_add_9 rfl ?_
  refine zU_iload_n d_A_add_10 rfl ?_
  refine zU_callVv (p0 := (3 + 3 * w)) [zi (n : Int), zi (zB (!p))] d_A_add_11 k_A_22 rfl (zMl h_w) (zMk h_w) rfl (by decide) (Nat.le_of_ble_eq_true rfl) (fun l => m_M_begin l μ h_w) (fun μ11 h11 => ?_)
  have hbN : μ11 1 1 = (w : Int) := by rw [h11.2.2.2.2.2.2.2 1 (by omega) (by omega), hN, hw]
  refine zU_aload_n d_A_add_14 rfl ?_
  refine zU_dup d_A_add_15 rfl ?_
  refine zU_getI (v := (w : Int)) d_A_add_16 f_A_18 (by decide) rfl rfl (hbN) ?_
  refine zU_iconst d_A_add_19 ?_
  refine zU_iadd d_A_add_20 ?_
  refine zU_putI d_A_add_21 f_A_18 p_A_count (by decide) rfl rfl (Or.inl rfl) ?_
  refine zU_aload_n d_A_add_24 rfl ?_
  refine zU_getI (v := (w : Int) + 1) d_A_add_25 f_A_18 (by decide) rfl rfl (by simp [zup_at]) ?_
  refine zU_iconst d_A_add_28 ?_
  refine zU_isub d_A_add_29 ?_
  exact zU_ireturn d_A_add_30 (Or.inl rfl) (by decide) (by decide) (⟨_, rfl, by omega, by rw [hw] at h11 ⊢; exact cRep_add ha hc hN4' h11, fun q h1 h2 h3 => by rw [zup_ne _ _ _ h1]; exact h11.2.2.2.2.2.2.2 q (by rw [hw]; exact h2) (by rw [hw]; exact h3)⟩)
end
section
theorem cAut_only {a a' : aT} {i0 : Nat} {μ μ' : zM} (hc : cRep a μ) (hN : aN a' = aN a) (hD : aD a' = aD a) (hC : aC a' = aC a) (h1 : μ' 1 = μ 1) (hq : ∀ q, q ≠ 3 + 3 * i0 → q ≠ 4 + 3 * i0 → q ≠ 5 + 3 * i0 → μ' q = μ q)
    (he : ∀ i, i < aN a → i ≠ i0 → aS a' i = aS a i ∧ aP a' i = aP a i ∧ aI a' i = aI a i ∧ aM a' i = aM a i ∧ aF a' i = aF a i ∧ aE a' i = aE a i) (h0 : cAut a' i0 μ') : cRep a' μ' := by
  obtain ⟨c1, c2, c3, c4⟩ := hc
  refine ⟨by rw [h1, hN]; exact c1, by rw [h1, hD]; exact c2, by rw [h1, hD, hC]; exact c3, fun i hi => ?_⟩
  rw [hN] at hi
  by_cases hii : i = i0
  · subst hii; exact h0
  · obtain ⟨e0, e1, e2, e3, e4, e5⟩ := he i hi hii
    exact cAut_congr (c4 i hi) (hq _ (by omega) (by omega) (by omega)) (hq _ (by omega) (by omega) (by omega)) (hq _ (by omega) (by omega) (by omega)) e0 e1 e2 e3 e4 e5
theorem aH_edge {a : aT} {i s e : Nat} {t : Int} (hs : s < 6) (ht : 0 ≤ t) (e' : Nat) : aH (aEdge a i s e t) i e' = (aH a i e' || decide (e' = e)) := by
  by_cases h : e' = e
  · subst h
    simp only [decide_true, Bool.or_true]
    exact any_iff.mpr ⟨s, hs, by simp [aEdge, aE, ht]⟩
  · have : ∀ s', aE (aEdge a i s e t) i s' e' = aE a i s' e' := fun s' => by simp [aEdge, aE, h]
    simp [aH, this, h]
theorem cRep_edge {a : aT} {μ : zM} {i s e : Nat} {t : Int} (hc : cRep a μ) (hi : i < aN a) (hN : aN a ≤ 4) (hs : s < 6) (he : e < 12) (ht : 0 ≤ t) :
    cRep (aEdge a i s e t) (zup (zup (zup μ (5 + 3 * i) (12 * s + e) t) (4 + 3 * i) s (zor (μ (4 + 3 * i) s) (zshl 1 (e : Int)))) (3 + 3 * i) 5 (zor (μ (3 + 3 * i) 5) (zshl 1 (e : Int)))) := by
  have hA := hc.2.2.2 i hi
  have n1 : ¬ (3 + 3 * i = 4 + 3 * i) := by omega
  have n2 : ¬ (3 + 3 * i = 5 + 3 * i) := by omega
  have n3 : ¬ (4 + 3 * i = 3 + 3 * i) := by omega
  have n4 : ¬ (4 + 3 * i = 5 + 3 * i) := by omega
  have n5 : ¬ (5 + 3 * i = 3 + 3 * i) := by omega
  have n6 : ¬ (5 + 3 * i = 4 + 3 * i) := by omega
  refine cAut_only (i0 := i) hc rfl rfl rfl ?_ (fun q q1 q2 q3 => ?_) (fun j hj hji => ⟨rfl, rfl, rfl, rfl, rfl, by funext s' e'; simp [aEdge, aE, hji]⟩) ?_
  · rw [zup_ne _ _ _ (by omega), zup_ne _ _ _ (by omega), zup_ne _ _ _ (by omega)]
  · rw [zup_ne _ _ _ q1, zup_ne _ _ _ q2, zup_ne _ _ _ q3]
  · obtain ⟨a0, a1, a2, a3, a4, a5, a6⟩ := hA
    refine ⟨by simp [zup_at, n1, n2]; exact a0, by simp [zup_at, n1, n2]; exact a1, by simp [zup_at, n1, n2]; exact a2, by simp [zup_at, n1, n2]; exact a3, by simp [zup_at, n1, n2]; exact a4, ?_, fun s' hs' => ⟨?_, fun e' he' hp => ?_⟩⟩
    · simp only [zup_at, and_self, if_true]
      refine ⟨zor_r _ _, fun j hj => ?_⟩
      rw [zbt_or, a5.2 j hj, zb1 (by omega) (by omega), aH_edge hs ht]
    · simp only [zup_at, n3, n4, false_and, if_false]
      by_cases h : s' = s
      · subst h
        simp only [and_self, if_true]
        refine ⟨zor_r _ _, fun j hj => ?_⟩
        rw [zbt_or, (a6 s' hs').1.2 j hj, zb1 (by omega) (by omega)]
        by_cases hj2 : j = e
        · subst hj2; simp [aEdge, aE, ht]
        · have hE : aE (aEdge a i s' e t) i s' j = aE a i s' j := by simp [aEdge, aE, hj2]
          show (decide (0 ≤ aE a i s' j) || decide (j = e)) = decide (0 ≤ aE (aEdge a i s' e t) i s' j)
          rw [hE]
          simp [hj2]
      · simp only [h, and_false, if_false]
        refine ⟨(a6 s' hs').1.1, fun j hj => ?_⟩
        have hE : aE (aEdge a i s e t) i s' j = aE a i s' j := by simp [aEdge, aE, h]
        rw [(a6 s' hs').1.2 j hj]
        show decide (0 ≤ aE a i s' j) = decide (0 ≤ aE (aEdge a i s e t) i s' j)
        rw [hE]
    · simp only [zup_at, n5, n6, false_and, if_false, true_and]
      by_cases h : s' = s ∧ e' = e
      · obtain ⟨rfl, rfl⟩ := h
        simp [aEdge, aE]
      · have hidx : ¬ (12 * s' + e' = 12 * s + e) := by omega
        have hE : aE (aEdge a i s e t) i s' e' = aE a i s' e' := by simp [aEdge, aE, h]
        rw [hE] at hp ⊢
        simp only [hidx, if_false]
        exact (a6 s' hs').2 e' he' hp
theorem aOk_edge {a : aT} {i s e : Nat} {t : Int} (ha : aOk a) (hi : i < aN a) (hs : s < aS a i) (ht : 0 ≤ t ∧ t < aS a i) (hd : aD a e = true) : aOk (aEdge a i s e t) := by
  refine ⟨ha.1, fun j hj => ?_⟩
  have hj' : j < aN a := hj
  obtain ⟨h1, h2, h3⟩ := ha.2 j hj'
  refine ⟨h1, h2, fun s' e' hs' he' => ?_⟩
  by_cases h : j = i ∧ s' = s ∧ e' = e
  · obtain ⟨rfl, rfl, rfl⟩ := h
    have : aE (aEdge a j s' e' t) j s' e' = t := by simp [aEdge, aE]
    rw [this]
    refine ⟨⟨by omega, ht.2⟩, fun h => ?_, fun _ => hd⟩
    have : aS a j ≤ s' := h
    omega
  · have : aE (aEdge a i s e t) j s' e' = aE a j s' e' := by simp [aEdge, aE, h]
    rw [this]
    exact h3 s' e' hs' he'
theorem cRep_ini {a : aT} {μ : zM} {i : Nat} {v : Int} (hc : cRep a μ) (hi : i < aN a) : cRep (aIni a i v) (zup μ (3 + 3 * i) 2 v) := by
  have hA := hc.2.2.2 i hi
  have n3 : ¬ (4 + 3 * i = 3 + 3 * i) := by omega
  have n5 : ¬ (5 + 3 * i = 3 + 3 * i) := by omega
  refine cAut_only (i0 := i) hc rfl rfl rfl (zup_ne _ _ _ (by omega)) (fun q q1 _ _ => zup_ne _ _ _ q1) (fun j hj hji => ⟨rfl, rfl, by simp [aIni, aI, hji], rfl, rfl, rfl⟩) ?_
  obtain ⟨a0, a1, a2, a3, a4, a5, a6⟩ := hA
  have f1 : zup μ (3 + 3 * i) 2 v (4 + 3 * i) = μ (4 + 3 * i) := zup_ne _ _ _ n3
  have f2 : zup μ (3 + 3 * i) 2 v (5 + 3 * i) = μ (5 + 3 * i) := zup_ne _ _ _ n5
  unfold cAut
  rw [f1, f2]
  exact ⟨by simp [zup_at]; exact a0, by simp [zup_at]; exact a1, by simp [zup_at, aIni, aI], by simp [zup_at]; exact a3, by simp [zup_at]; exact a4, by simp [zup_at]; exact a5, a6⟩
theorem cRep_mrk {a : aT} {μ : zM} {i s : Nat} {x : Int} {b : Bool} (hc : cRep a μ) (hi : i < aN a) (hx : -2147483648 ≤ x ∧ x ≤ 2147483647) (hb : ∀ j, j < 32 → zbt x j = if j = s then b else zbt (μ (3 + 3 * i) 3) j) : cRep (aMrk a i s b) (zup μ (3 + 3 * i) 3 x) := by
  have hA := hc.2.2.2 i hi
  refine cAut_only (i0 := i) hc rfl rfl rfl (zup_ne _ _ _ (by omega)) (fun q q1 _ _ => zup_ne _ _ _ q1) (fun j hj hji => ⟨rfl, rfl, rfl, by funext s'; simp [aMrk, aM, hji], rfl, rfl⟩) ?_
  obtain ⟨a0, a1, a2, a3, a4, a5, a6⟩ := hA
  have f1 : zup μ (3 + 3 * i) 3 x (4 + 3 * i) = μ (4 + 3 * i) := zup_ne _ _ _ (by omega)
  have f2 : zup μ (3 + 3 * i) 3 x (5 + 3 * i) = μ (5 + 3 * i) := zup_ne _ _ _ (by omega)
  unfold cAut
  rw [f1, f2]
  refine ⟨by simp [zup_at]; exact a0, by simp [zup_at]; exact a1, by simp [zup_at]; exact a2, ?_, by simp [zup_at]; exact a4, by simp [zup_at]; exact a5, a6⟩
  simp only [zup_at, and_self, if_true]
  refine ⟨hx, fun j hj => ?_⟩
  rw [hb j (by omega), a3.2 j hj]
  by_cases h : j = s <;> simp [aMrk, aM, h]
theorem cRep_fbd {a : aT} {μ : zM} {i s : Nat} {x : Int} {b : Bool} (hc : cRep a μ) (hi : i < aN a) (hx : -2147483648 ≤ x ∧ x ≤ 2147483647) (hb : ∀ j, j < 32 → zbt x j = if j = s then b else zbt (μ (3 + 3 * i) 4) j) : cRep (aFbd a i s b) (zup μ (3 + 3 * i) 4 x) := by
  have hA := hc.2.2.2 i hi
  refine cAut_only (i0 := i) hc rfl rfl rfl (zup_ne _ _ _ (by omega)) (fun q q1 _ _ => zup_ne _ _ _ q1) (fun j hj hji => ⟨rfl, rfl, rfl, rfl, by funext s'; simp [aFbd, aF, hji], rfl⟩) ?_
  obtain ⟨a0, a1, a2, a3, a4, a5, a6⟩ := hA
  have f1 : zup μ (3 + 3 * i) 4 x (4 + 3 * i) = μ (4 + 3 * i) := zup_ne _ _ _ (by omega)
  have f2 : zup μ (3 + 3 * i) 4 x (5 + 3 * i) = μ (5 + 3 * i) := zup_ne _ _ _ (by omega)
  unfold cAut
  rw [f1, f2]
  refine ⟨by simp [zup_at]; exact a0, by simp [zup_at]; exact a1, by simp [zup_at]; exact a2, by simp [zup_at]; exact a3, ?_, by simp [zup_at]; exact a5, a6⟩
  simp only [zup_at, and_self, if_true]
  refine ⟨hx, fun j hj => ?_⟩
  rw [hb j (by omega), a4.2 j hj]
  by_cases h : j = s <;> simp [aFbd, aF, h]
theorem aOk_tell {a : aT} {i s w : Nat} {on : Bool} (ha : aOk a) (hi : i < aN a) (hs : s < aS a i) : aOk (aTell a i s w on) := by
  have hI : ∀ v : Int, -1 ≤ v → v < aS a i → aOk (aIni a i v) := by
    intro v h1 h2
    refine ⟨ha.1, fun j hj => ?_⟩
    obtain ⟨g1, g2, g3⟩ := ha.2 j hj
    refine ⟨g1, ?_, g3⟩
    by_cases h : j = i
    · subst h
      have : aI (aIni a j v) j = v := by simp [aIni, aI]
      rw [this]
      exact ⟨h1, h2⟩
    · have : aI (aIni a i v) j = aI a j := by simp [aIni, aI, h]
      rw [this]
      exact g2
  unfold aTell
  split
  · split
    · exact hI _ (by omega) (by omega)
    · split
      · exact hI _ (by omega) (by have := (ha.2 i hi).1; omega)
      · exact ha
  · split
    · exact ha
    · exact ha
theorem cRep_decl {a : aT} {μ : zM} {e : Nat} {b : Bool} {x y : Int} (hc : cRep a μ) (hx : -2147483648 ≤ x ∧ x ≤ 2147483647) (hbx : ∀ j, j < 12 → zbt x j = (aD a j || decide (j = e))) (hy : -2147483648 ≤ y ∧ y ≤ 2147483647) (hby : ∀ j, j < 12 → zbt y j = if j = e then b else (aD a j && aC a j)) {μ' : zM} (h1 : μ' 1 1 = μ 1 1) (h2 : μ' 1 2 = x) (h3 : μ' 1 3 = y) (hq : ∀ q, q ≠ 1 → μ' q = μ q) : cRep (aDecl a e b) μ' := by
  obtain ⟨c1, c2, c3, c4⟩ := hc
  have m2 : zmask 12 (μ' 1 2) (aD (aDecl a e b)) := by
    rw [h2]
    refine ⟨hx, fun j hj => ?_⟩
    rw [hbx j hj]
    by_cases h : j = e <;> simp [aDecl, aD, h]
  have m3 : zmask 12 (μ' 1 3) (fun j => aD (aDecl a e b) j && aC (aDecl a e b) j) := by
    rw [h3]
    refine ⟨hy, fun j hj => ?_⟩
    rw [hby j hj]
    by_cases h : j = e <;> simp [aDecl, aD, aC, h]
  exact ⟨by rw [h1]; exact c1, m2, m3, fun i hi => cAut_congr (c4 i hi) (hq _ (by omega)) (hq _ (by omega)) (hq _ (by omega)) rfl rfl rfl rfl rfl rfl⟩
theorem aOk_decl {a : aT} {e : Nat} {b : Bool} (ha : aOk a) : aOk (aDecl a e b) := by
  refine ⟨ha.1, fun j hj => ?_⟩
  obtain ⟨g1, g2, g3⟩ := ha.2 j hj
  refine ⟨g1, g2, fun s e' hs he => ⟨(g3 s e' hs he).1, (g3 s e' hs he).2.1, fun h => ?_⟩⟩
  have := (g3 s e' hs he).2.2 h
  simp only [aDecl, aD] at this ⊢
  split
  · rfl
  · exact this
set_option maxRecDepth 100000 in
set_option maxHeartbeats 4000000 in
theorem m_M_addEdge (l : Launch) (μ : zM) {a : aT} (ha : aOk a) (hc : cRep a μ) {i s e : Nat} {t : Int} (hi : i < aN a) (hs : s < 6) (he : e < 12) (ht : 0 ≤ t) :
    zC l y_M_addEdge b_M_addEdge 4 none [] 0 0 0 false [zp (3 + 3 * i), zi (s : Int), zi (e : Int), zi t] μ (zRv (fun μ' => cRep (aEdge a i s e t) μ' ∧ ∀ q, q ≠ 3 + 3 * i → q ≠ 4 + 3 * i → q ≠ 5 + 3 * i → μ' q = μ q)) := by
  refine zC.of (own := n_M) (L := [some (zp (3 + 3 * i)), some (zi (s : Int)), some (zi (e : Int)), some (zi t)]) (by decide) rfl (by simp [zcat]) (Nat.le_of_ble_eq_true rfl) rfl (fun Γ => ?_)
  obtain ⟨hN, hD, hCt, hA⟩ := id hc
  have hN4 := ha.1
  have h_i : i < 4 := by omega
  have n1 : ¬ (4 + 3 * i = 5 + 3 * i) := by omega
  have n2 : ¬ (3 + 3 * i = 5 + 3 * i) := by omega
  have n3 : ¬ (3 + 3 * i = 4 + 3 * i) := by omega
  refine zU_aload_n d_M_addEdge_0 rfl ?_
  refine zU_getR (5 + 3 * i) d_M_addEdge_1 f_M_15 (zMl h_i) (zMk h_i) rfl (zMr2 h_i) ?_
  refine zU_iload_n d_M_addEdge_4 rfl ?_
  refine zU_bipush d_M_addEdge_5 (by decide) ?_
  refine zU_imul d_M_addEdge_7 ?_
  refine zU_iload_n d_M_addEdge_8 rfl ?_
  refine zU_iadd d_M_addEdge_9 ?_
  refine zU_iload_n d_M_addEdge_10 rfl ?_
  refine zU_iast d_M_addEdge_11 (zMl2 h_i) (zMk2 h_i) (by decide) (by omega) ?_
  refine zU.eqM (μ' := zup μ (5 + 3 * i) (12 * s + e) t) (by congr 1; omega) ?_
  refine zU_aload_n d_M_addEdge_12 rfl ?_
  refine zU_getR (4 + 3 * i) d_M_addEdge_13 f_M_9 (zMl h_i) (zMk h_i) rfl (zMr1 h_i) ?_
  refine zU_iload_n d_M_addEdge_16 rfl ?_
  refine zU_dup2 d_M_addEdge_17 rfl rfl ?_
  refine zU_iald (v := μ (4 + 3 * i) s) d_M_addEdge_18 (zMl1 h_i) (zMk1 h_i) (by decide) (by omega) (by simp [zup_at, n1]) ?_
  refine zU_iconst d_M_addEdge_19 ?_
  refine zU_iload_n d_M_addEdge_20 rfl ?_
  refine zU_ishl d_M_addEdge_21 ?_
  refine zU_ior d_M_addEdge_22 ?_
  refine zU_iast d_M_addEdge_23 (zMl1 h_i) (zMk1 h_i) (by decide) (by omega) ?_
  refine zU.eqM (μ' := zup (zup μ (5 + 3 * i) (12 * s + e) t) (4 + 3 * i) s (zor (μ (4 + 3 * i) s) (zshl 1 (e : Int)))) rfl ?_
  refine zU_aload_n d_M_addEdge_24 rfl ?_
  refine zU_dup d_M_addEdge_25 rfl ?_
  refine zU_getI (v := μ (3 + 3 * i) 5) d_M_addEdge_26 f_M_34 (zMl h_i) (zMk h_i) rfl (by simp [zup_at, n2, n3]) ?_
  refine zU_iconst d_M_addEdge_29 ?_
  refine zU_iload_n d_M_addEdge_30 rfl ?_
  refine zU_ishl d_M_addEdge_31 ?_
  refine zU_ior d_M_addEdge_32 ?_
  refine zU_putI d_M_addEdge_33 f_M_34 p_M_events (zMl h_i) (zMk h_i) rfl (Or.inl rfl) ?_
  exact zU_return d_M_addEdge_36 rfl (by decide) (by decide) (⟨rfl, cRep_edge hc hi hN4 hs he ht, fun q q1 q2 q3 => by rw [zup_ne _ _ _ q1, zup_ne _ _ _ q2, zup_ne _ _ _ q3]⟩)
set_option maxRecDepth 100000 in
set_option maxHeartbeats 4000000 in
theorem m_M_changeInitial (l : Launch) (μ : zM) {a : aT} (ha : aOk a) (hc : cRep a μ) {i s : Nat} {on : Bool} (hi : i < aN a) (hs : s < 6) :
    zC l y_M_changeInitial b_M_changeInitial 3 none [] 0 0 0 false [zp (3 + 3 * i), zi (s : Int), zi (zB on)] μ (zRv (fun μ' => cRep (aTell a i s 0 on) μ' ∧ ∀ q, q ≠ 3 + 3 * i → μ' q = μ q)) := by
  refine zC.of (own := n_M) (L := [some (zp (3 + 3 * i)), some (zi (s : Int)), some (zi (zB on))]) (by decide) rfl (by simp [zcat]) (Nat.le_of_ble_eq_true rfl) rfl (fun Γ => ?_)
  obtain ⟨hN, hD, hCt, hA⟩ := id hc
  have hN4 := ha.1
  have h_i : i < 4 := by omega
  refine zU_iload_n d_M_changeInitial_0 rfl ?_
  refine zU_if_eq 12 d_M_changeInitial_1 (by decide) (zBr _) (fun h1 => ?_) (fun h1 => ?_)
  · refine zU_aload_n d_M_changeInitial_12 rfl ?_
    refine zU_getI (v := aI a i) d_M_changeInitial_13 f_M_25 (zMl h_i) (zMk h_i) rfl ((hA i hi).2.2.1) ?_
    refine zU_iload_n d_M_changeInitial_16 rfl ?_
    refine zU_icmp_ne 25 d_M_changeInitial_17 (by decide) (by first | omega | (have := (ha.2 i hi).1; have := (ha.2 i hi).2.1; omega)) (by first | omega | (have := (ha.2 i hi).1; have := (ha.2 i hi).2.1; omega)) (fun h17 => ?_) (fun h17 => ?_)
    · exact zU_return d_M_changeInitial_25 rfl (by decide) (by decide) (⟨rfl, by have h := zB_zero.mp h1; unfold aTell; simp only [h, if_true, if_neg h17]; exact hc, fun q _ => rfl⟩)
    · refine zU_aload_n d_M_changeInitial_20 rfl ?_
      refine zU_iconst d_M_changeInitial_21 ?_
      refine zU_putI d_M_changeInitial_22 f_M_25 p_M_initial (zMl h_i) (zMk h_i) rfl (Or.inl rfl) ?_
      exact zU_return d_M_changeInitial_25 rfl (by decide) (by decide) (⟨rfl, by have h := zB_zero.mp h1; unfold aTell; simp only [h, if_true, if_pos h17]; exact cRep_ini hc hi, fun q hq => zup_ne _ _ _ hq⟩)
  · refine zU_aload_n d_M_changeInitial_4 rfl ?_
    refine zU_iload_n d_M_changeInitial_5 rfl ?_
    refine zU_putI d_M_changeInitial_6 f_M_25 p_M_initial (zMl h_i) (zMk h_i) rfl (Or.inl rfl) ?_
    refine zU_goto 25 d_M_changeInitial_9 (by decide) ?_
    exact zU_return d_M_changeInitial_25 rfl (by decide) (by decide) (⟨rfl, by have h := zB_nz.mp h1; unfold aTell; simp only [h, if_true]; exact cRep_ini hc hi, fun q hq => zup_ne _ _ _ hq⟩)
set_option maxRecDepth 100000 in
set_option maxHeartbeats 4000000 in
theorem m_M_change (l : Launch) (μ : zM) {a : aT} (ha : aOk a) (hc : cRep a μ) {i s w : Nat} {on : Bool} (hi : i < aN a) (hs : s < 6) (hw : w < 3) :
    zC l y_M_change b_M_change 4 none [] 1 0 22 false [zp (3 + 3 * i), zi (s : Int), zi (w : Int), zi (zB on)] μ (zRv (fun μ' => cRep (aTell a i s w on) μ' ∧ ∀ q, q ≠ 3 + 3 * i → μ' q = μ q)) := by
  refine zC.of (own := n_M) (L := [some (zp (3 + 3 * i)), some (zi (s : Int)), some (zi (w : Int)), some (zi (zB on))]) (by decide) rfl (by simp [zcat]) (Nat.le_of_ble_eq_true rfl) rfl (fun Γ => ?_)
  obtain ⟨hN, hD, hCt, hA⟩ := id hc
  have hN4 := ha.1
  have h_i : i < 4 := by omega
  refine zU_iload_n d_M_change_0 rfl ?_
  refine zU_if_ne 13 d_M_change_1 (by decide) (by omega) (fun h1 => ?_) (fun h1 => ?_)
  · refine zU_iload_n d_M_change_13 rfl ?_
    refine zU_iconst d_M_change_14 ?_
    refine zU_icmp_ne 34 d_M_change_15 (by decide) (by omega) (by omega) (fun h15 => ?_) (fun h15 => ?_)
    · refine zU_aload_n d_M_change_34 rfl ?_
      refine zU_aload_n d_M_change_35 rfl ?_
      refine zU_getI (v := μ (3 + 3 * i) 4) d_M_change_36 f_M_31 (zMl h_i) (zMk h_i) rfl (rfl) ?_
      refine zU_iload_n d_M_change_39 rfl ?_
      refine zU_iload_n d_M_change_40 rfl ?_
      refine zU_callSi [zi (μ (3 + 3 * i) 4), zi (s : Int), zi (zB on)] d_M_change_41 k_M_45 rfl (by decide) (Nat.le_of_ble_eq_true rfl) (fun l => m_M_withBit l μ (x := μ (3 + 3 * i) 4) (i := s) (on := zB on) (by omega) (zB_or _)) (fun r41 μ41 h41 => ?_)
      obtain ⟨hμ41, hr41, hb41⟩ := h41
      replace hμ41 := hμ41.symm
      subst hμ41
      refine zU_putI d_M_change_44 f_M_31 p_M_forbiddenStates (zMl h_i) (zMk h_i) rfl (Or.inl rfl) ?_
      exact zU_return d_M_change_47 rfl (by decide) (by decide) (⟨rfl, by have h2 : ¬ w = 0 := (by omega); have h3 : ¬ w = 1 := (by omega); unfold aTell; rw [if_neg h2, if_neg h3]; exact cRep_fbd hc hi hr41 (fun j hj => by rw [hb41 j hj]; cases on <;> simp [zB]), fun q hq => zup_ne _ _ _ hq⟩)
    · refine zU_aload_n d_M_change_18 rfl ?_
      refine zU_aload_n d_M_change_19 rfl ?_
      refine zU_getI (v := μ (3 + 3 * i) 3) d_M_change_20 f_M_28 (zMl h_i) (zMk h_i) rfl (rfl) ?_
      refine zU_iload_n d_M_change_23 rfl ?_
      refine zU_iload_n d_M_change_24 rfl ?_
      refine zU_callSi [zi (μ (3 + 3 * i) 3), zi (s : Int), zi (zB on)] d_M_change_25 k_M_45 rfl (by decide) (Nat.le_of_ble_eq_true rfl) (fun l => m_M_withBit l μ (x := μ (3 + 3 * i) 3) (i := s) (on := zB on) (by omega) (zB_or _)) (fun r25 μ25 h25 => ?_)
      obtain ⟨hμ25, hr25, hb25⟩ := h25
      replace hμ25 := hμ25.symm
      subst hμ25
      refine zU_putI d_M_change_28 f_M_28 p_M_markedStates (zMl h_i) (zMk h_i) rfl (Or.inl rfl) ?_
      refine zU_goto 47 d_M_change_31 (by decide) ?_
      exact zU_return d_M_change_47 rfl (by decide) (by decide) (⟨rfl, by have h2 : ¬ w = 0 := (by omega); have h3 : w = 1 := (by omega); unfold aTell; rw [if_neg h2, if_pos h3]; exact cRep_mrk hc hi hr25 (fun j hj => by rw [hb25 j hj]; cases on <;> simp [zB]), fun q hq => zup_ne _ _ _ hq⟩)
  · refine zU_aload_n d_M_change_4 rfl ?_
    refine zU_iload_n d_M_change_5 rfl ?_
    refine zU_iload_n d_M_change_6 rfl ?_
    refine zU_callVv (p0 := (3 + 3 * i)) [zi (s : Int), zi (zB on)] d_M_change_7 k_M_41 rfl (zMl h_i) (zMk h_i) rfl (by decide) (Nat.le_of_ble_eq_true rfl) (fun l => m_M_changeInitial l μ ha hc hi hs) (fun μ7 h7 => ?_)
    have hw0 : w = 0 := by omega
    subst hw0
    refine zU_goto 47 d_M_change_10 (by decide) ?_
    exact zU_return d_M_change_47 rfl (by decide) (by decide) (⟨rfl, h7.1, h7.2⟩)
set_option maxRecDepth 100000 in
set_option maxHeartbeats 4000000 in
theorem m_A_declare (l : Launch) (μ : zM) {a : aT} (ha : aOk a) (hc : cRep a μ) {e : Nat} {on : Bool} (he : e < 12) (hd : aD a e = false) :
    zC l y_A_declare b_A_declare 3 none [] 0 0 0 false [zp 1, zi (e : Int), zi (zB on)] μ (zRv (fun μ' => cRep (aDecl a e on) μ' ∧ ∀ q, q ≠ 1 → μ' q = μ q)) := by
  refine zC.of (own := n_A) (L := [some (zp 1), some (zi (e : Int)), some (zi (zB on))]) (by decide) rfl (by simp [zcat]) (Nat.le_of_ble_eq_true rfl) rfl (fun Γ => ?_)
  obtain ⟨hN, hD, hCt, hA⟩ := id hc
  have hN4 := ha.1
  refine zU_aload_n d_A_declare_0 rfl ?_
  refine zU_dup d_A_declare_1 rfl ?_
  refine zU_getI (v := μ 1 2) d_A_declare_2 f_A_26 (by decide) rfl rfl (rfl) ?_
  refine zU_iconst d_A_declare_5 ?_
  refine zU_iload_n d_A_declare_6 rfl ?_
  refine zU_ishl d_A_declare_7 ?_
  refine zU_ior d_A_declare_8 ?_
  refine zU_putI d_A_declare_9 f_A_26 p_A_declaredEvents (by decide) rfl rfl (Or.inl rfl) ?_
  refine zU_iload_n d_A_declare_12 rfl ?_
  refine zU_if_eq 28 d_A_declare_13 (by decide) (zBr _) (fun h13 => ?_) (fun h13 => ?_)
  · exact zU_return d_A_declare_28 rfl (by decide) (by decide) (⟨rfl, cRep_decl (b := on) hc (x := zor (μ 1 2) (zshl 1 (e : Int))) (y := μ 1 3) (zor_r _ _) (fun j hj => by rw [zbt_or, hD.2 j hj, zb1 (by omega) (by omega)]) hCt.1 (fun j hj => by rw [hCt.2 j hj]; by_cases h : j = e <;> simp [h, hd, zB_zero.mp h13]) (by simp [zup_at]) (by simp [zup_at]) (by simp [zup_at]) (fun q hq => zup_ne _ _ _ hq), fun q hq => zup_ne _ _ _ hq⟩)
  · refine zU_aload_n d_A_declare_16 rfl ?_
    refine zU_dup d_A_declare_17 rfl ?_
    refine zU_getI (v := μ 1 3) d_A_declare_18 f_A_29 (by decide) rfl rfl (by simp [zup_at]) ?_
    refine zU_iconst d_A_declare_21 ?_
    refine zU_iload_n d_A_declare_22 rfl ?_
    refine zU_ishl d_A_declare_23 ?_
    refine zU_ior d_A_declare_24 ?_
    refine zU_putI d_A_declare_25 f_A_29 p_A_controllableEvents (by decide) rfl rfl (Or.inl rfl) ?_
    exact zU_return d_A_declare_28 rfl (by decide) (by decide) (⟨rfl, cRep_decl (b := on) hc (x := zor (μ 1 2) (zshl 1 (e : Int))) (y := zor (μ 1 3) (zshl 1 (e : Int))) (zor_r _ _) (fun j hj => by rw [zbt_or, hD.2 j hj, zb1 (by omega) (by omega)]) (zor_r _ _) (fun j hj => by rw [zbt_or, hCt.2 j hj, zb1 (by omega) (by omega)]; by_cases h : j = e <;> simp [h, zB_nz.mp h13]) (by simp [zup_at]) (by simp [zup_at]) (by simp [zup_at]) (fun q hq => by rw [zup_ne _ _ _ hq, zup_ne _ _ _ hq]), fun q hq => by rw [zup_ne _ _ _ hq, zup_ne _ _ _ hq]⟩)
set_option maxRecDepth 100000 in
set_option maxHeartbeats 4000000 in
theorem m_A_removeAll (l : Launch) (μ : zM) {a : aT} :
    zC l y_A_removeAll b_A_removeAll 1 none [] 0 0 0 false [zp 1] μ (zRv (fun μ' => cRep (aClr a) μ' ∧ ∀ q, q ≠ 1 → μ' q = μ q)) := by
  refine zC.of (own := n_A) (L := [some (zp 1)]) (by decide) rfl (by simp [zcat]) (Nat.le_of_ble_eq_true rfl) rfl (fun Γ => ?_)
  refine zU_aload_n d_A_removeAll_0 rfl ?_
  refine zU_iconst d_A_removeAll_1 ?_
  refine zU_putI d_A_removeAll_2 f_A_18 p_A_count (by decide) rfl rfl (Or.inl rfl) ?_
  refine zU_aload_n d_A_removeAll_5 rfl ?_
  refine zU_iconst d_A_removeAll_6 ?_
  refine zU_putI d_A_removeAll_7 f_A_26 p_A_declaredEvents (by decide) rfl rfl (Or.inl rfl) ?_
  refine zU_aload_n d_A_removeAll_10 rfl ?_
  refine zU_iconst d_A_removeAll_11 ?_
  refine zU_putI d_A_removeAll_12 f_A_29 p_A_controllableEvents (by decide) rfl rfl (Or.inl rfl) ?_
  exact zU_return d_A_removeAll_15 rfl (by decide) (by decide) (⟨rfl, ⟨by simp [zup_at, aClr, aN], by simp [zup_at]; exact zmask_zero (fun _ _ => rfl), by simp [zup_at]; exact zmask_zero (fun _ _ => rfl), fun i hi => absurd hi (by simp [aClr, aN])⟩, fun q hq => by rw [zup_ne _ _ _ hq, zup_ne _ _ _ hq, zup_ne _ _ _ hq]⟩)
end
section
set_option maxRecDepth 100000 in
set_option maxHeartbeats 4000000 in
theorem m_C_requireEvent (l : Launch) (μ : zM) {x : Int} (hx : -2147483648 ≤ x ∧ x ≤ 2147483647) :
    zC l y_C_requireEvent b_C_requireEvent 1 none [] 6 1 81 true [zi x] μ (zRvt (fun μ' => μ' = μ ∧ 0 ≤ x ∧ x < 12) (fun k μ' => μ' = μ ∧ k = 0 ∧ ¬ (0 ≤ x ∧ x < 12))) := by
  refine zC.of (own := n_C) (L := [some (zi x)]) (by decide) rfl (by simp [zcat]) (Nat.le_of_ble_eq_true rfl) rfl (fun Γ => ?_)
  refine zU_iload_n d_C_requireEvent_0 rfl ?_
  refine zU_if_lt 10 d_C_requireEvent_1 (by decide) (by omega) (fun h1 => ?_) (fun h1 => ?_)
  · exact zU_throw 0 d_C_requireEvent_10 d_C_requireEvent_13 d_C_requireEvent_14 d_C_requireEvent_17 w_C_50 (by decide) (Or.inr ⟨0, rfl, rfl, rfl, by omega⟩)
  · refine zU_iload_n d_C_requireEvent_4 rfl ?_
    refine zU_bipush d_C_requireEvent_5 (by decide) ?_
    refine zU_icmp_lt 18 d_C_requireEvent_7 (by decide) (by omega) (by omega) (fun h7 => ?_) (fun h7 => ?_)
    · exact zU_return d_C_requireEvent_18 rfl (by decide) (by decide) (Or.inl ⟨rfl, rfl, by omega, by omega⟩)
    · exact zU_throw 0 d_C_requireEvent_10 d_C_requireEvent_13 d_C_requireEvent_14 d_C_requireEvent_17 w_C_50 (by decide) (Or.inr ⟨0, rfl, rfl, rfl, by omega⟩)
set_option maxRecDepth 100000 in
set_option maxHeartbeats 4000000 in
theorem m_C_requireResult (l : Launch) (μ : zM) (h6 : μ 0 6 = 0 ∨ μ 0 6 = 1) :
    zC l y_C_requireResult b_C_requireResult 1 none [] 6 1 81 true [zp 0] μ (zRvt (fun μ' => μ' = μ ∧ μ 0 6 = 1) (fun k μ' => μ' = μ ∧ k = 1 ∧ μ 0 6 = 0)) := by
  refine zC.of (own := n_C) (L := [some (zp 0)]) (by decide) rfl (by simp [zcat]) (Nat.le_of_ble_eq_true rfl) rfl (fun Γ => ?_)
  refine zU_aload_n d_C_requireResult_0 rfl ?_
  refine zU_getI (v := μ 0 6) d_C_requireResult_1 f_C_60 (by decide) rfl rfl (rfl) ?_
  refine zU_if_ne 15 d_C_requireResult_4 (by decide) (by omega) (fun h4 => ?_) (fun h4 => ?_)
  · exact zU_return d_C_requireResult_15 rfl (by decide) (by decide) (Or.inl ⟨rfl, rfl, by omega⟩)
  · exact zU_throw 1 d_C_requireResult_7 d_C_requireResult_10 d_C_requireResult_11 d_C_requireResult_14 w_C_57 (by decide) (Or.inr ⟨1, rfl, rfl, rfl, by omega⟩)
set_option maxRecDepth 100000 in
set_option maxHeartbeats 4000000 in
theorem m_C_requireSupervisor (l : Launch) (μ : zM) (h6 : μ 0 6 = 0 ∨ μ 0 6 = 1) (hk : -2147483648 ≤ μ 33 0 ∧ μ 33 0 ≤ 2147483647) :
    zC l y_C_requireSupervisor b_C_requireSupervisor 1 none [] 6 1 81 true [zp 0] μ (zRvt (fun μ' => μ' = μ ∧ μ 0 6 = 1 ∧ ¬ μ 33 0 = 0) (fun k μ' => μ' = μ ∧ k = 1 ∧ ¬ (μ 0 6 = 1 ∧ ¬ μ 33 0 = 0))) := by
  refine zC.of (own := n_C) (L := [some (zp 0)]) (by decide) rfl (by simp [zcat]) (Nat.le_of_ble_eq_true rfl) rfl (fun Γ => ?_)
  refine zU_aload_n d_C_requireSupervisor_0 rfl ?_
  refine zU_getI (v := μ 0 6) d_C_requireSupervisor_1 f_C_60 (by decide) rfl rfl (rfl) ?_
  refine zU_if_eq 17 d_C_requireSupervisor_4 (by decide) (by omega) (fun h4 => ?_) (fun h4 => ?_)
  · exact zU_throw 1 d_C_requireSupervisor_17 d_C_requireSupervisor_20 d_C_requireSupervisor_21 d_C_requireSupervisor_24 w_C_57 (by decide) (Or.inr ⟨1, rfl, rfl, rfl, by omega⟩)
  · refine zU_aload_n d_C_requireSupervisor_7 rfl ?_
    refine zU_getR 33 d_C_requireSupervisor_8 f_C_40 (by decide) rfl rfl rfl ?_
    refine zU_getI (v := μ 33 0) d_C_requireSupervisor_11 f_C_121 (by decide) rfl rfl (rfl) ?_
    refine zU_if_ne 25 d_C_requireSupervisor_14 (by decide) (by omega) (fun h14 => ?_) (fun h14 => ?_)
    · exact zU_return d_C_requireSupervisor_25 rfl (by decide) (by decide) (Or.inl ⟨rfl, rfl, by omega, by omega⟩)
    · exact zU_throw 1 d_C_requireSupervisor_17 d_C_requireSupervisor_20 d_C_requireSupervisor_21 d_C_requireSupervisor_24 w_C_57 (by decide) (Or.inr ⟨1, rfl, rfl, rfl, by omega⟩)
set_option maxRecDepth 100000 in
set_option maxHeartbeats 4000000 in
theorem m_C_requireState (l : Launch) (μ : zM) {x : Int} (hx : -2147483648 ≤ x ∧ x ≤ 2147483647) (hk : -2147483648 ≤ μ 33 0 ∧ μ 33 0 ≤ 2147483647) :
    zC l y_C_requireState b_C_requireState 2 none [] 6 1 81 true [zp 0, zi x] μ (zRvt (fun μ' => μ' = μ ∧ 1 ≤ x ∧ x ≤ μ 33 0) (fun k μ' => μ' = μ ∧ k = 0 ∧ ¬ (1 ≤ x ∧ x ≤ μ 33 0))) := by
  refine zC.of (own := n_C) (L := [some (zp 0), some (zi x)]) (by decide) rfl (by simp [zcat]) (Nat.le_of_ble_eq_true rfl) rfl (fun Γ => ?_)
  refine zU_iload_n d_C_requireState_0 rfl ?_
  refine zU_iconst d_C_requireState_1 ?_
  refine zU_icmp_lt 16 d_C_requireState_2 (by decide) (by omega) (by omega) (fun h2 => ?_) (fun h2 => ?_)
  · exact zU_throw 0 d_C_requireState_16 d_C_requireState_19 d_C_requireState_20 d_C_requireState_23 w_C_50 (by decide) (Or.inr ⟨0, rfl, rfl, rfl, by omega⟩)
  · refine zU_iload_n d_C_requireState_5 rfl ?_
    refine zU_aload_n d_C_requireState_6 rfl ?_
    refine zU_getR 33 d_C_requireState_7 f_C_40 (by decide) rfl rfl rfl ?_
    refine zU_getI (v := μ 33 0) d_C_requireState_10 f_C_121 (by decide) rfl rfl (rfl) ?_
    refine zU_icmp_le 24 d_C_requireState_13 (by decide) (by omega) (by omega) (fun h13 => ?_) (fun h13 => ?_)
    · exact zU_return d_C_requireState_24 rfl (by decide) (by decide) (Or.inl ⟨rfl, rfl, by omega, by omega⟩)
    · exact zU_throw 0 d_C_requireState_16 d_C_requireState_19 d_C_requireState_20 d_C_requireState_23 w_C_50 (by decide) (Or.inr ⟨0, rfl, rfl, rfl, by omega⟩)
set_option maxRecDepth 100000 in
set_option maxHeartbeats 4000000 in
theorem m_C_requireStateAndEvent (l : Launch) (μ : zM) {x y : Int} (h6 : μ 0 6 = 0 ∨ μ 0 6 = 1) (hx : -2147483648 ≤ x ∧ x ≤ 2147483647) (hy : -2147483648 ≤ y ∧ y ≤ 2147483647) (hk : -2147483648 ≤ μ 33 0 ∧ μ 33 0 ≤ 2147483647) :
    zC l y_C_requireStateAndEvent b_C_requireStateAndEvent 3 none [] 7 3 102 true [zp 0, zi x, zi y] μ (zRvt (fun μ' => μ' = μ ∧ (μ 0 6 = 1 ∧ ¬ μ 33 0 = 0) ∧ (1 ≤ x ∧ x ≤ μ 33 0) ∧ 0 ≤ y ∧ y < 12) (fun k μ' => μ' = μ ∧ ((k = 1 ∧ ¬ (μ 0 6 = 1 ∧ ¬ μ 33 0 = 0)) ∨ (k = 0 ∧ (μ 0 6 = 1 ∧ ¬ μ 33 0 = 0) ∧ ¬ ((1 ≤ x ∧ x ≤ μ 33 0) ∧ 0 ≤ y ∧ y < 12))))) := by
  refine zC.of (own := n_C) (L := [some (zp 0), some (zi x), some (zi y)]) (by decide) rfl (by simp [zcat]) (Nat.le_of_ble_eq_true rfl) rfl (fun Γ => ?_)
  refine zU_aload_n d_C_requireStateAndEvent_0 rfl ?_
  refine zU_callVvt (p0 := 0) [] d_C_requireStateAndEvent_1 k_C_132 rfl (by decide) rfl rfl (by decide) (Nat.le_of_ble_eq_true rfl) (fun l => m_C_requireSupervisor l μ h6 hk) (fun μ1 h1 => ?_) (fun k μt ht => zthru (by decide) (by decide) (Or.inr ⟨k, rfl, ht.1, Or.inl ⟨ht.2.1, ht.2.2⟩⟩))
  obtain ⟨hμ1, hs1⟩ := h1
  replace hμ1 := hμ1.symm
  subst hμ1
  refine zU_aload_n d_C_requireStateAndEvent_4 rfl ?_
  refine zU_iload_n d_C_requireStateAndEvent_5 rfl ?_
  refine zU_callVvt (p0 := 0) [zi x] d_C_requireStateAndEvent_6 k_C_135 rfl (by decide) rfl rfl (by decide) (Nat.le_of_ble_eq_true rfl) (fun l => m_C_requireState l μ hx hk) (fun μ6 h6' => ?_) (fun k μt ht => zthru (by decide) (by decide) (Or.inr ⟨k, rfl, ht.1, Or.inr ⟨ht.2.1, hs1, fun h => ht.2.2 h.1⟩⟩))
  obtain ⟨hμ6, hs6⟩ := h6'
  replace hμ6 := hμ6.symm
  subst hμ6
  refine zU_iload_n d_C_requireStateAndEvent_9 rfl ?_
  refine zU_callSvt [zi y] d_C_requireStateAndEvent_10 k_C_68 rfl (by decide) (Nat.le_of_ble_eq_true rfl) (fun l => m_C_requireEvent l μ hy) (fun μ10 h10 => ?_) (fun k μt ht => zthru (by decide) (by decide) (Or.inr ⟨k, rfl, ht.1, Or.inr ⟨ht.2.1, hs1, fun h => ht.2.2 h.2⟩⟩))
  obtain ⟨hμ10, hs10⟩ := h10
  replace hμ10 := hμ10.symm
  subst hμ10
  exact zU_return d_C_requireStateAndEvent_13 rfl (by decide) (by decide) (Or.inl ⟨rfl, rfl, hs1, hs6, hs10⟩)
set_option maxRecDepth 100000 in
set_option maxHeartbeats 4000000 in
theorem m_C_automaton (l : Launch) (μ : zM) {a : aT} (ha : aOk a) (hc : cRep a μ) {x y : Int} (hx : -2147483648 ≤ x ∧ x ≤ 2147483647) (hy : -2147483648 ≤ y ∧ y ≤ 2147483647) :
    zC l y_C_automaton b_C_automaton 3 (some .int) [] 6 1 81 false [zp 0, zi x, zi y] μ (zRit (fun r μ' => ∃ (n : Nat) (p : Bool), x = n ∧ y = zB (!p) ∧ (1 ≤ n ∧ n ≤ 6) ∧ aN a < 4 ∧ r = aN a ∧ cRep (aAdd a n p) μ' ∧ μ' 0 6 = 0 ∧ ∀ q, q ≠ 0 → q ≠ 1 → q ≠ 3 + 3 * aN a → q ≠ 4 + 3 * aN a → μ' q = μ q) (fun k μ' => μ' = μ ∧ ((k = 0 ∧ ¬ (1 ≤ x ∧ x ≤ 6 ∧ 0 ≤ y ∧ y ≤ 1)) ∨ (k = 1 ∧ (1 ≤ x ∧ x ≤ 6 ∧ 0 ≤ y ∧ y ≤ 1) ∧ aN a = 4)))) := by
  refine zC.of (own := n_C) (L := [some (zp 0), some (zi x), some (zi y)]) (by decide) rfl (by simp [zcat]) (Nat.le_of_ble_eq_true rfl) rfl (fun Γ => ?_)
  obtain ⟨hN, hD, hCt, hA⟩ := id hc
  have hN4 := ha.1
  refine zU_iload_n d_C_automaton_0 rfl ?_
  refine zU_iconst d_C_automaton_1 ?_
  refine zU_icmp_lt 20 d_C_automaton_2 (by decide) (by omega) (by omega) (fun h2 => ?_) (fun h2 => ?_)
  · exact zU_throw 0 d_C_automaton_20 d_C_automaton_23 d_C_automaton_24 d_C_automaton_27 w_C_50 (by decide) (Or.inr ⟨0, rfl, rfl, Or.inl ⟨rfl, by omega⟩⟩)
  · refine zU_iload_n d_C_automaton_5 rfl ?_
    refine zU_bipush d_C_automaton_6 (by decide) ?_
    refine zU_icmp_gt 20 d_C_automaton_8 (by decide) (by omega) (by omega) (fun h8 => ?_) (fun h8 => ?_)
    · exact zU_throw 0 d_C_automaton_20 d_C_automaton_23 d_C_automaton_24 d_C_automaton_27 w_C_50 (by decide) (Or.inr ⟨0, rfl, rfl, Or.inl ⟨rfl, by omega⟩⟩)
    · refine zU_iload_n d_C_automaton_11 rfl ?_
      refine zU_if_eq 28 d_C_automaton_12 (by decide) (by omega) (fun h12 => ?_) (fun h12 => ?_)
      · refine zU_aload_n d_C_automaton_28 rfl ?_
        refine zU_getR 1 d_C_automaton_29 f_C_12 (by decide) rfl rfl rfl ?_
        refine zU_getI (v := (aN a : Int)) d_C_automaton_32 f_C_53 (by decide) rfl rfl (hN) ?_
        refine zU_iconst d_C_automaton_35 ?_
        refine zU_icmp_ne 47 d_C_automaton_36 (by decide) (by omega) (by omega) (fun h36 => ?_) (fun h36 => ?_)
        · refine zU_aload_n d_C_automaton_47 rfl ?_
          refine zU_iconst d_C_automaton_48 ?_
          refine zU_putI d_C_automaton_49 f_C_60 p_C_resultStands (by decide) rfl rfl (Or.inr ⟨rfl, by omega⟩) ?_
          obtain ⟨n, rfl⟩ : ∃ n : Nat, x = (n : Int) := ⟨x.toNat, by omega⟩
          obtain ⟨p, rfl⟩ : ∃ p : Bool, y = zB (!p) := ⟨decide (y = 0), by rcases (show y = 0 ∨ y = 1 by omega) with h | h <;> rw [h] <;> rfl⟩
          have hc' : cRep a (zup μ 0 6 0) := cRep_congr hc (fun q hq => zup_ne _ _ _ (by omega)) ha
          refine zU_aload_n d_C_automaton_52 rfl ?_
          refine zU_getR 1 d_C_automaton_53 f_C_12 (by decide) rfl rfl rfl ?_
          refine zU_iload_n d_C_automaton_56 rfl ?_
          refine zU_iload_n d_C_automaton_57 rfl ?_
          refine zU_callVi (p0 := 1) [zi (n : Int), zi (zB (!p))] d_C_automaton_58 k_C_64 rfl (by decide) rfl rfl (by decide) (Nat.le_of_ble_eq_true rfl) (fun l => m_A_add l (zup μ 0 6 0) ha hc' (n := n) (p := p) (by omega) (by omega)) (fun r58 μ58 h58 => ?_)
          exact zU_ireturn d_C_automaton_61 (Or.inl rfl) (by decide) (by decide) (Or.inl ⟨_, rfl, n, p, rfl, rfl, by omega, by omega, h58.1, h58.2.1, by rw [h58.2.2 0 (by omega) (by omega) (by omega)]; simp [zup_at], fun q q0 q1 q2 q3 => by rw [h58.2.2 q q1 q2 q3, zup_ne _ _ _ q0]⟩)
        · exact zU_throw 1 d_C_automaton_39 d_C_automaton_42 d_C_automaton_43 d_C_automaton_46 w_C_57 (by decide) (Or.inr ⟨1, rfl, rfl, Or.inr ⟨rfl, by omega, by omega⟩⟩)
      · refine zU_iload_n d_C_automaton_15 rfl ?_
        refine zU_iconst d_C_automaton_16 ?_
        refine zU_icmp_eq 28 d_C_automaton_17 (by decide) (by omega) (by omega) (fun h17 => ?_) (fun h17 => ?_)
        · refine zU_aload_n d_C_automaton_28 rfl ?_
          refine zU_getR 1 d_C_automaton_29 f_C_12 (by decide) rfl rfl rfl ?_
          refine zU_getI (v := (aN a : Int)) d_C_automaton_32 f_C_53 (by decide) rfl rfl (hN) ?_
          refine zU_iconst d_C_automaton_35 ?_
          refine zU_icmp_ne 47 d_C_automaton_36 (by decide) (by omega) (by omega) (fun h36 => ?_) (fun h36 => ?_)
          · refine zU_aload_n d_C_automaton_47 rfl ?_
            refine zU_iconst d_C_automaton_48 ?_
            refine zU_putI d_C_automaton_49 f_C_60 p_C_resultStands (by decide) rfl rfl (Or.inr ⟨rfl, by omega⟩) ?_
            obtain ⟨n, rfl⟩ : ∃ n : Nat, x = (n : Int) := ⟨x.toNat, by omega⟩
            obtain ⟨p, rfl⟩ : ∃ p : Bool, y = zB (!p) := ⟨decide (y = 0), by rcases (show y = 0 ∨ y = 1 by omega) with h | h <;> rw [h] <;> rfl⟩
            have hc' : cRep a (zup μ 0 6 0) := cRep_congr hc (fun q hq => zup_ne _ _ _ (by omega)) ha
            refine zU_aload_n d_C_automaton_52 rfl ?_
            refine zU_getR 1 d_C_automaton_53 f_C_12 (by decide) rfl rfl rfl ?_
            refine zU_iload_n d_C_automaton_56 rfl ?_
            refine zU_iload_n d_C_automaton_57 rfl ?_
            refine zU_callVi (p0 := 1) [zi (n : Int), zi (zB (!p))] d_C_automaton_58 k_C_64 rfl (by decide) rfl rfl (by decide) (Nat.le_of_ble_eq_true rfl) (fun l => m_A_add l (zup μ 0 6 0) ha hc' (n := n) (p := p) (by omega) (by omega)) (fun r58 μ58 h58 => ?_)
            exact zU_ireturn d_C_automaton_61 (Or.inl rfl) (by decide) (by decide) (Or.inl ⟨_, rfl, n, p, rfl, rfl, by omega, by omega, h58.1, h58.2.1, by rw [h58.2.2 0 (by omega) (by omega) (by omega)]; simp [zup_at], fun q q0 q1 q2 q3 => by rw [h58.2.2 q q1 q2 q3, zup_ne _ _ _ q0]⟩)
          · exact zU_throw 1 d_C_automaton_39 d_C_automaton_42 d_C_automaton_43 d_C_automaton_46 w_C_57 (by decide) (Or.inr ⟨1, rfl, rfl, Or.inr ⟨rfl, by omega, by omega⟩⟩)
        · exact zU_throw 0 d_C_automaton_20 d_C_automaton_23 d_C_automaton_24 d_C_automaton_27 w_C_50 (by decide) (Or.inr ⟨0, rfl, rfl, Or.inl ⟨rfl, by omega⟩⟩)
set_option maxRecDepth 100000 in
set_option maxHeartbeats 4000000 in
theorem m_C_event (l : Launch) (μ : zM) {a : aT} (ha : aOk a) (hc : cRep a μ) {x : Int} {on : Bool} (hx : -2147483648 ≤ x ∧ x ≤ 2147483647) :
    zC l y_C_event b_C_event 3 (some .boolean) [] 7 2 101 false [zp 0, zi x, zi (zB on)] μ (zRit (fun r μ' => ∃ e : Nat, x = e ∧ e < 12 ∧ ((aD a e = true ∧ aC a e = on ∧ r = 0 ∧ μ' = μ) ∨ (aD a e = false ∧ r = 1 ∧ cRep (aDecl a e on) μ' ∧ μ' 0 6 = 0 ∧ ∀ q, q ≠ 0 → q ≠ 1 → μ' q = μ q))) (fun k μ' => μ' = μ ∧ ((k = 0 ∧ ¬ (0 ≤ x ∧ x < 12)) ∨ (k = 1 ∧ ∃ e : Nat, x = e ∧ e < 12 ∧ aD a e = true ∧ ¬ aC a e = on)))) := by
  refine zC.of (own := n_C) (L := [some (zp 0), some (zi x), some (zi (zB on))]) (by decide) rfl (by simp [zcat]) (Nat.le_of_ble_eq_true rfl) rfl (fun Γ => ?_)
  obtain ⟨hN, hD, hCt, hA⟩ := id hc
  have hN4 := ha.1
  refine zU_iload_n d_C_event_0 rfl ?_
  refine zU_callSvt [zi x] d_C_event_1 k_C_68 rfl (by decide) (Nat.le_of_ble_eq_true rfl) (fun l => m_C_requireEvent l μ hx) (fun μ1 h1 => ?_) (fun k μt ht => zthru (by decide) (by decide) (Or.inr ⟨k, rfl, ht.1, Or.inl ⟨ht.2.1, ht.2.2⟩⟩))
  obtain ⟨hμ1, hs1⟩ := h1
  replace hμ1 := hμ1.symm
  subst hμ1
  obtain ⟨e, hxe⟩ : ∃ e : Nat, x = (e : Int) := ⟨x.toNat, by omega⟩
  subst hxe
  have he : e < 12 := by omega
  refine zU_aload_n d_C_event_4 rfl ?_
  refine zU_getR 1 d_C_event_5 f_C_12 (by decide) rfl rfl rfl ?_
  refine zU_iload_n d_C_event_8 rfl ?_
  refine zU_callVi (p0 := 1) [zi (e : Int)] d_C_event_9 k_C_72 rfl (by decide) rfl rfl (by decide) (Nat.le_of_ble_eq_true rfl) (fun l => m_A_isDeclared l μ (e := e) (by omega) hD.1) (fun r9 μ9 h9 => ?_)
  obtain ⟨hμ9, hr9⟩ := h9
  rw [hD.2 e he] at hr9
  subst hr9
  replace hμ9 := hμ9.symm
  subst hμ9
  refine zU_if_eq 37 d_C_event_12 (by decide) (zBr _) (fun h12 => ?_) (fun h12 => ?_)
  · refine zU_aload_n d_C_event_37 rfl ?_
    refine zU_iconst d_C_event_38 ?_
    refine zU_putI d_C_event_39 f_C_60 p_C_resultStands (by decide) rfl rfl (Or.inr ⟨rfl, by omega⟩) ?_
    refine zU_aload_n d_C_event_42 rfl ?_
    refine zU_getR 1 d_C_event_43 f_C_12 (by decide) rfl rfl rfl ?_
    refine zU_iload_n d_C_event_46 rfl ?_
    refine zU_iload_n d_C_event_47 rfl ?_
    refine zU_callVv (p0 := 1) [zi (e : Int), zi (zB on)] d_C_event_48 k_C_79 rfl (by decide) rfl rfl (by decide) (Nat.le_of_ble_eq_true rfl) (fun l => m_A_declare l (zup μ 0 6 0) ha (cRep_congr hc (fun q hq => zup_ne _ _ _ (by omega)) ha) (e := e) (on := on) he (zB_zero.mp h12)) (fun μ48 h48 => ?_)
    refine zU_iconst d_C_event_51 ?_
    exact zU_ireturn d_C_event_52 (Or.inr ⟨rfl, by omega⟩) (by decide) (by decide) (Or.inl ⟨_, rfl, e, rfl, he, Or.inr ⟨zB_zero.mp h12, rfl, h48.1, by rw [h48.2 0 (by omega)]; simp [zup_at], fun q q0 q1 => by rw [h48.2 q q1, zup_ne _ _ _ q0]⟩⟩)
  · refine zU_aload_n d_C_event_15 rfl ?_
    refine zU_getR 1 d_C_event_16 f_C_12 (by decide) rfl rfl rfl ?_
    refine zU_iload_n d_C_event_19 rfl ?_
    refine zU_callVi (p0 := 1) [zi (e : Int)] d_C_event_20 k_C_76 rfl (by decide) rfl rfl (by decide) (Nat.le_of_ble_eq_true rfl) (fun l => m_A_isControllable l μ (e := e) (by omega) hCt.1) (fun r20 μ20 h20 => ?_)
    obtain ⟨hμ20, hr20⟩ := h20
    rw [show zbt (μ 1 3) e = (aD a e && aC a e) from hCt.2 e he] at hr20
    have hde := zB_nz.mp h12
    subst hr20
    replace hμ20 := hμ20.symm
    subst hμ20
    refine zU_iload_n d_C_event_23 rfl ?_
    refine zU_icmp_eq 35 d_C_event_24 (by decide) (zBr _) (zBr _) (fun h24 => ?_) (fun h24 => ?_)
    · refine zU_iconst d_C_event_35 ?_
      exact zU_ireturn d_C_event_36 (Or.inr ⟨rfl, by omega⟩) (by decide) (by decide) (Or.inl ⟨_, rfl, e, rfl, he, Or.inl ⟨hde, by rw [hde] at h24; revert h24; cases aC a e <;> cases on <;> simp [zB], rfl, rfl⟩⟩)
    · exact zU_throw 1 d_C_event_27 d_C_event_30 d_C_event_31 d_C_event_34 w_C_57 (by decide) (Or.inr ⟨1, rfl, rfl, Or.inr ⟨rfl, e, rfl, he, hde, fun h => h24 (by rw [hde, h]; rfl)⟩⟩)
set_option maxRecDepth 100000 in
set_option maxHeartbeats 4000000 in
theorem m_C_edge (l : Launch) (μ : zM) {a : aT} (ha : aOk a) (hc : cRep a μ) {x s e t : Int} (hx : -2147483648 ≤ x ∧ x ≤ 2147483647) (hs : -2147483648 ≤ s ∧ s ≤ 2147483647) (he : -2147483648 ≤ e ∧ e ≤ 2147483647) (ht' : -2147483648 ≤ t ∧ t ≤ 2147483647) :
    zC l y_C_edge b_C_edge 5 none [] 7 2 101 false [zp 0, zi x, zi s, zi e, zi t] μ (zRvt (fun μ' => ∃ i s' e' t' : Nat, x = i ∧ s = s' ∧ e = e' ∧ t = t' ∧ i < aN a ∧ s' < aS a i ∧ t' < aS a i ∧ e' < 12 ∧ aD a e' = true ∧ ¬ 0 ≤ aE a i s' e' ∧ cRep (aEdge a i s' e' t') μ' ∧ μ' 0 6 = 0 ∧ ∀ q, q ≠ 0 → q ≠ 3 + 3 * i → q ≠ 4 + 3 * i → q ≠ 5 + 3 * i → μ' q = μ q) (fun k μ' => μ' = μ ∧ ((k = 0 ∧ ¬ ((0 ≤ x ∧ x < aN a ∧ 0 ≤ s ∧ s < aS a x.toNat) ∧ (0 ≤ x ∧ x < aN a ∧ 0 ≤ t ∧ t < aS a x.toNat) ∧ 0 ≤ e ∧ e < 12)) ∨ (k = 1 ∧ ((0 ≤ x ∧ x < aN a ∧ 0 ≤ s ∧ s < aS a x.toNat) ∧ (0 ≤ x ∧ x < aN a ∧ 0 ≤ t ∧ t < aS a x.toNat) ∧ 0 ≤ e ∧ e < 12) ∧ (aD a e.toNat = false ∨ 0 ≤ aE a x.toNat s.toNat e.toNat))))) := by
  refine zC.of (own := n_C) (L := [some (zp 0), some (zi x), some (zi s), some (zi e), some (zi t)]) (by decide) rfl (by simp [zcat]) (Nat.le_of_ble_eq_true rfl) rfl (fun Γ => ?_)
  obtain ⟨hN, hD, hCt, hA⟩ := id hc
  have hN4 := ha.1
  refine zU_aload_n d_C_edge_0 rfl ?_
  refine zU_getR 1 d_C_edge_1 f_C_12 (by decide) rfl rfl rfl ?_
  refine zU_iload_n d_C_edge_4 rfl ?_
  refine zU_iload_n d_C_edge_5 rfl ?_
  refine zU_callVi (p0 := 1) [zi x, zi s] d_C_edge_6 k_C_83 rfl (by decide) rfl rfl (by decide) (Nat.le_of_ble_eq_true rfl) (fun l => m_A_hasState l μ ha hc hx hs) (fun r6 μ6 h6 => ?_)
  obtain ⟨hμ6, rfl⟩ := h6
  replace hμ6 := hμ6.symm
  subst hμ6
  refine zU_if_eq 25 d_C_edge_9 (by decide) (zBr _) (fun h9 => ?_) (fun h9 => ?_)
  · exact zU_throw 0 d_C_edge_25 d_C_edge_28 d_C_edge_29 d_C_edge_32 w_C_50 (by decide) (Or.inr ⟨0, rfl, rfl, Or.inl ⟨rfl, fun h => of_decide_eq_false (zB_zero.mp h9) h.1⟩⟩)
  · refine zU_aload_n d_C_edge_12 rfl ?_
    refine zU_getR 1 d_C_edge_13 f_C_12 (by decide) rfl rfl rfl ?_
    refine zU_iload_n d_C_edge_16 rfl ?_
    refine zU_iload d_C_edge_17 rfl ?_
    refine zU_callVi (p0 := 1) [zi x, zi t] d_C_edge_19 k_C_83 rfl (by decide) rfl rfl (by decide) (Nat.le_of_ble_eq_true rfl) (fun l => m_A_hasState l μ ha hc hx ht') (fun r19 μ19 h19 => ?_)
    obtain ⟨hμ19, rfl⟩ := h19
    replace hμ19 := hμ19.symm
    subst hμ19
    refine zU_if_ne 33 d_C_edge_22 (by decide) (zBr _) (fun h22 => ?_) (fun h22 => ?_)
    · refine zU_iload_n d_C_edge_33 rfl ?_
      refine zU_callSvt [zi e] d_C_edge_34 k_C_68 rfl (by decide) (Nat.le_of_ble_eq_true rfl) (fun l => m_C_requireEvent l μ he) (fun μ34 h34 => ?_) (fun k μt ht => zthru (by decide) (by decide) (Or.inr ⟨k, rfl, ht.1, Or.inl ⟨ht.2.1, fun h => ht.2.2 h.2.2⟩⟩))
      obtain ⟨hμ34, hs34⟩ := h34
      replace hμ34 := hμ34.symm
      subst hμ34
      have g1 := of_decide_eq_true (zB_nz.mp h9)
      have g2 := of_decide_eq_true (zB_nz.mp h22)
      obtain ⟨i, hxi⟩ : ∃ i : Nat, x = (i : Int) := ⟨x.toNat, by omega⟩
      obtain ⟨s', hss⟩ : ∃ i : Nat, s = (i : Int) := ⟨s.toNat, by omega⟩
      obtain ⟨e', hee⟩ : ∃ i : Nat, e = (i : Int) := ⟨e.toNat, by omega⟩
      obtain ⟨t', htt⟩ : ∃ i : Nat, t = (i : Int) := ⟨t.toNat, by omega⟩
      subst hxi hss hee htt
      simp only [Int.toNat_natCast] at g1 g2
      have hi : i < aN a := by omega
      have h_i : i < 4 := by omega
      have hS := (ha.2 i hi).1
      have hs6 : s' < 6 := by omega
      have he12 : e' < 12 := by omega
      refine zU_aload_n d_C_edge_37 rfl ?_
      refine zU_getR 1 d_C_edge_38 f_C_12 (by decide) rfl rfl rfl ?_
      refine zU_iload_n d_C_edge_41 rfl ?_
      refine zU_callVi (p0 := 1) [zi (e' : Int)] d_C_edge_42 k_C_72 rfl (by decide) rfl rfl (by decide) (Nat.le_of_ble_eq_true rfl) (fun l => m_A_isDeclared l μ (e := e') (by omega) hD.1) (fun r42 μ42 h42 => ?_)
      obtain ⟨hμ42, hr42⟩ := h42
      rw [hD.2 e' he12] at hr42
      subst hr42
      replace hμ42 := hμ42.symm
      subst hμ42
      refine zU_if_eq 65 d_C_edge_45 (by decide) (zBr _) (fun h45 => ?_) (fun h45 => ?_)
      · exact zU_throw 1 d_C_edge_65 d_C_edge_68 d_C_edge_69 d_C_edge_72 w_C_57 (by decide) (Or.inr ⟨1, rfl, rfl, Or.inr ⟨rfl, ⟨g1, g2, by omega, by omega⟩, Or.inl (zB_zero.mp h45)⟩⟩)
      · refine zU_aload_n d_C_edge_48 rfl ?_
        refine zU_getR 1 d_C_edge_49 f_C_12 (by decide) rfl rfl rfl ?_
        refine zU_getR 2 d_C_edge_52 f_C_87 (by decide) rfl rfl rfl ?_
        refine zU_iload_n d_C_edge_55 rfl ?_
        refine zU_aald (3 + 3 * i) d_C_edge_56 (by decide) rfl (by decide) (by omega) (zRn h_i) ?_
        refine zU_iload_n d_C_edge_57 rfl ?_
        refine zU_iload_n d_C_edge_58 rfl ?_
        refine zU_callVi (p0 := (3 + 3 * i)) [zi (s' : Int), zi (e' : Int)] d_C_edge_59 k_C_91 rfl (zMl h_i) (zMk h_i) rfl (by decide) (Nat.le_of_ble_eq_true rfl) (fun l => m_M_hasEdge l μ h_i hs6 (e := e') (by omega) ((hA i hi).2.2.2.2.2.2 s' hs6).1.1) (fun r59 μ59 h59 => ?_)
        obtain ⟨hμ59, hr59⟩ := h59
        rw [((hA i hi).2.2.2.2.2.2 s' hs6).1.2 e' he12] at hr59
        subst hr59
        replace hμ59 := hμ59.symm
        subst hμ59
        refine zU_if_eq 73 d_C_edge_62 (by decide) (zBr _) (fun h62 => ?_) (fun h62 => ?_)
        · refine zU_aload_n d_C_edge_73 rfl ?_
          refine zU_iconst d_C_edge_74 ?_
          refine zU_putI d_C_edge_75 f_C_60 p_C_resultStands (by decide) rfl rfl (Or.inr ⟨rfl, by omega⟩) ?_
          refine zU_aload_n d_C_edge_78 rfl ?_
          refine zU_getR 1 d_C_edge_79 f_C_12 (by decide) rfl rfl rfl ?_
          refine zU_getR 2 d_C_edge_82 f_C_87 (by decide) rfl rfl rfl ?_
          refine zU_iload_n d_C_edge_85 rfl ?_
          refine zU_aald (3 + 3 * i) d_C_edge_86 (by decide) rfl (by decide) (by omega) (zRn h_i) ?_
          refine zU_iload_n d_C_edge_87 rfl ?_
          refine zU_iload_n d_C_edge_88 rfl ?_
          refine zU_iload d_C_edge_89 rfl ?_
          refine zU_callVv (p0 := (3 + 3 * i)) [zi (s' : Int), zi (e' : Int), zi (t' : Int)] d_C_edge_91 k_C_96 rfl (zMl h_i) (zMk h_i) rfl (by decide) (Nat.le_of_ble_eq_true rfl) (fun l => m_M_addEdge l (zup μ 0 6 0) ha (cRep_congr hc (fun q hq => zup_ne _ _ _ (by omega)) ha) (t := (t' : Int)) hi hs6 he12 (by omega)) (fun μ91 h91 => ?_)
          exact zU_return d_C_edge_94 rfl (by decide) (by decide) (Or.inl ⟨rfl, i, s', e', t', rfl, rfl, rfl, rfl, hi, by omega, by omega, he12, zB_nz.mp h45, of_decide_eq_false (zB_zero.mp h62), h91.1, by rw [h91.2 0 (by omega) (by omega) (by omega)]; simp [zup_at], fun q q0 q1 q2 q3 => by rw [h91.2 q q1 q2 q3, zup_ne _ _ _ q0]⟩)
        · exact zU_throw 1 d_C_edge_65 d_C_edge_68 d_C_edge_69 d_C_edge_72 w_C_57 (by decide) (Or.inr ⟨1, rfl, rfl, Or.inr ⟨rfl, ⟨g1, g2, by omega, by omega⟩, Or.inr (of_decide_eq_true (zB_nz.mp h62))⟩⟩)
    · exact zU_throw 0 d_C_edge_25 d_C_edge_28 d_C_edge_29 d_C_edge_32 w_C_50 (by decide) (Or.inr ⟨0, rfl, rfl, Or.inl ⟨rfl, fun h => of_decide_eq_false (zB_zero.mp h22) h.2.1⟩⟩)
set_option maxRecDepth 100000 in
set_option maxHeartbeats 4000000 in
theorem m_C_tell (l : Launch) (μ : zM) {a : aT} (ha : aOk a) (hc : cRep a μ) {x s w : Int} {on : Bool} (hx : -2147483648 ≤ x ∧ x ≤ 2147483647) (hs : -2147483648 ≤ s ∧ s ≤ 2147483647) (hw : -2147483648 ≤ w ∧ w ≤ 2147483647) :
    zC l y_C_tell b_C_tell 5 none [] 6 1 81 false [zp 0, zi x, zi s, zi w, zi (zB on)] μ (zRvt (fun μ' => ∃ i s' w' : Nat, x = i ∧ s = s' ∧ w = w' ∧ i < aN a ∧ s' < aS a i ∧ w' < 3 ∧ cRep (aTell a i s' w' on) μ' ∧ μ' 0 6 = 0 ∧ ∀ q, q ≠ 0 → q ≠ 3 + 3 * i → μ' q = μ q) (fun k μ' => μ' = μ ∧ k = 0 ∧ ¬ ((0 ≤ x ∧ x < aN a ∧ 0 ≤ s ∧ s < aS a x.toNat) ∧ 0 ≤ w ∧ w < 3))) := by
  refine zC.of (own := n_C) (L := [some (zp 0), some (zi x), some (zi s), some (zi w), some (zi (zB on))]) (by decide) rfl (by simp [zcat]) (Nat.le_of_ble_eq_true rfl) rfl (fun Γ => ?_)
  obtain ⟨hN, hD, hCt, hA⟩ := id hc
  have hN4 := ha.1
  refine zU_aload_n d_C_tell_0 rfl ?_
  refine zU_getR 1 d_C_tell_1 f_C_12 (by decide) rfl rfl rfl ?_
  refine zU_iload_n d_C_tell_4 rfl ?_
  refine zU_iload_n d_C_tell_5 rfl ?_
  refine zU_callVi (p0 := 1) [zi x, zi s] d_C_tell_6 k_C_83 rfl (by decide) rfl rfl (by decide) (Nat.le_of_ble_eq_true rfl) (fun l => m_A_hasState l μ ha hc hx hs) (fun r6 μ6 h6 => ?_)
  obtain ⟨hμ6, rfl⟩ := h6
  replace hμ6 := hμ6.symm
  subst hμ6
  refine zU_if_eq 21 d_C_tell_9 (by decide) (zBr _) (fun h9 => ?_) (fun h9 => ?_)
  · exact zU_throw 0 d_C_tell_21 d_C_tell_24 d_C_tell_25 d_C_tell_28 w_C_50 (by decide) (Or.inr ⟨0, rfl, rfl, rfl, fun h => of_decide_eq_false (zB_zero.mp h9) h.1⟩)
  · refine zU_iload_n d_C_tell_12 rfl ?_
    refine zU_if_lt 21 d_C_tell_13 (by decide) (by omega) (fun h13 => ?_) (fun h13 => ?_)
    · exact zU_throw 0 d_C_tell_21 d_C_tell_24 d_C_tell_25 d_C_tell_28 w_C_50 (by decide) (Or.inr ⟨0, rfl, rfl, rfl, by omega⟩)
    · refine zU_iload_n d_C_tell_16 rfl ?_
      refine zU_iconst d_C_tell_17 ?_
      refine zU_icmp_le 29 d_C_tell_18 (by decide) (by omega) (by omega) (fun h18 => ?_) (fun h18 => ?_)
      · have g1 := of_decide_eq_true (zB_nz.mp h9)
        obtain ⟨i, hxi⟩ : ∃ i : Nat, x = (i : Int) := ⟨x.toNat, by omega⟩
        obtain ⟨s', hss⟩ : ∃ i : Nat, s = (i : Int) := ⟨s.toNat, by omega⟩
        obtain ⟨w', hww⟩ : ∃ i : Nat, w = (i : Int) := ⟨w.toNat, by omega⟩
        subst hxi hss hww
        simp only [Int.toNat_natCast] at g1
        have hi : i < aN a := by omega
        have h_i : i < 4 := by omega
        have hS := (ha.2 i hi).1
        have hs6 : s' < 6 := by omega
        have hw3 : w' < 3 := by omega
        refine zU_aload_n d_C_tell_29 rfl ?_
        refine zU_iconst d_C_tell_30 ?_
        refine zU_putI d_C_tell_31 f_C_60 p_C_resultStands (by decide) rfl rfl (Or.inr ⟨rfl, by omega⟩) ?_
        refine zU_aload_n d_C_tell_34 rfl ?_
        refine zU_getR 1 d_C_tell_35 f_C_12 (by decide) rfl rfl rfl ?_
        refine zU_getR 2 d_C_tell_38 f_C_87 (by decide) rfl rfl rfl ?_
        refine zU_iload_n d_C_tell_41 rfl ?_
        refine zU_aald (3 + 3 * i) d_C_tell_42 (by decide) rfl (by decide) (by omega) (zRn h_i) ?_
        refine zU_iload_n d_C_tell_43 rfl ?_
        refine zU_iload_n d_C_tell_44 rfl ?_
        refine zU_iload d_C_tell_45 rfl ?_
        refine zU_callVv (p0 := (3 + 3 * i)) [zi (s' : Int), zi (w' : Int), zi (zB on)] d_C_tell_47 k_C_100 rfl (zMl h_i) (zMk h_i) rfl (by decide) (Nat.le_of_ble_eq_true rfl) (fun l => m_M_change l (zup μ 0 6 0) ha (cRep_congr hc (fun q hq => zup_ne _ _ _ (by omega)) ha) (on := on) hi hs6 hw3) (fun μ47 h47 => ?_)
        exact zU_return d_C_tell_50 rfl (by decide) (by decide) (Or.inl ⟨rfl, i, s', w', rfl, rfl, rfl, hi, by omega, hw3, h47.1, by rw [h47.2 0 (by omega)]; simp [zup_at], fun q q0 q1 => by rw [h47.2 q q1, zup_ne _ _ _ q0]⟩)
      · exact zU_throw 0 d_C_tell_21 d_C_tell_24 d_C_tell_25 d_C_tell_28 w_C_50 (by decide) (Or.inr ⟨0, rfl, rfl, rfl, by omega⟩)
set_option maxRecDepth 100000 in
set_option maxHeartbeats 4000000 in
theorem m_C_clear (l : Launch) (μ : zM) {a : aT} :
    zC l y_C_clear b_C_clear 1 none [] 1 0 20 false [zp 0] μ (zRv (fun μ' => cRep (aClr a) μ' ∧ μ' 0 6 = 0 ∧ ∀ q, q ≠ 0 → q ≠ 1 → μ' q = μ q)) := by
  refine zC.of (own := n_C) (L := [some (zp 0)]) (by decide) rfl (by simp [zcat]) (Nat.le_of_ble_eq_true rfl) rfl (fun Γ => ?_)
  refine zU_aload_n d_C_clear_0 rfl ?_
  refine zU_iconst d_C_clear_1 ?_
  refine zU_putI d_C_clear_2 f_C_60 p_C_resultStands (by decide) rfl rfl (Or.inr ⟨rfl, by omega⟩) ?_
  refine zU_aload_n d_C_clear_5 rfl ?_
  refine zU_getR 1 d_C_clear_6 f_C_12 (by decide) rfl rfl rfl ?_
  refine zU_callVv (p0 := 1) [] d_C_clear_9 k_C_104 rfl (by decide) rfl rfl (by decide) (Nat.le_of_ble_eq_true rfl) (fun l => m_A_removeAll l (zup μ 0 6 0) (a := a)) (fun μ9 h9 => ?_)
  exact zU_return d_C_clear_12 rfl (by decide) (by decide) (⟨rfl, h9.1, by rw [h9.2 0 (by omega)]; simp [zup_at], fun q q0 q1 => by rw [h9.2 q q1, zup_ne _ _ _ q0]⟩)
end
section
/-! the graph: nodes' codes L (node k has number k + 1), edges ES (number, target), the edge FB by which each node was found -/
abbrev gT : Type := List Nat × List (Nat × Nat) × List Nat
def gBase (L : List Nat) (μ : zM) : Prop := μ 15 0 = (L.length : Int) ∧ L.length ≤ 200 ∧ (∀ (k c : Nat), L[k]? = some c → c < 4096 ∧ μ 17 (k + 1) = (c : Int) ∧ μ 16 c = ((k + 1 : Nat) : Int)) ∧ ∀ c : Nat, c < 4096 → c ∉ L → μ 16 c = 0
def gCh (μ : zM) : Int → List Nat → Prop
  | x, [] => x = 0
  | x, y :: l => x = (y : Int) ∧ gCh μ (μ 24 y) l
def chn (ES : List (Nat × Nat)) (t : Nat) : List Nat := ((ES.filter (fun q => decide (q.2 = t))).map (fun q => q.1)).reverse
def gEd (n : Nat) (ES : List (Nat × Nat)) (μ : zM) : Prop := (∀ q ∈ ES, (12 ≤ q.1 ∧ q.1 < 12 * (n + 1)) ∧ (1 ≤ q.2 ∧ q.2 ≤ n) ∧ μ 22 q.1 = (q.2 : Int)) ∧ (∀ x, 12 ≤ x → x < 12 * (n + 1) → (∀ q ∈ ES, q.1 ≠ x) → μ 22 x = 0) ∧ ∀ t, 1 ≤ t → t ≤ n → gCh μ (μ 23 t) (chn ES t)
def gRep (g : gT) (μ : zM) : Prop := gBase g.1 μ ∧ gEd g.1.length g.2.1 μ ∧ g.2.2.length = g.1.length ∧ ∀ (k x : Nat), g.2.2[k]? = some x → μ 21 (k + 1) = (x : Int)
theorem gCh_congr {μ μ' : zM} : ∀ (l : List Nat) (x : Int), (∀ y ∈ l, μ' 24 y = μ 24 y) → gCh μ x l → gCh μ' x l
  | [], _, _, h => h
  | y :: l, x, hq, h => ⟨h.1, by rw [hq y List.mem_cons_self]; exact gCh_congr l _ (fun z hz => hq z (List.mem_cons_of_mem _ hz)) h.2⟩
theorem chn_mem {ES : List (Nat × Nat)} {t x : Nat} : x ∈ chn ES t ↔ (x, t) ∈ ES := by
  simp only [chn, List.mem_reverse, List.mem_map, List.mem_filter, decide_eq_true_eq]
  constructor
  · rintro ⟨⟨y, s⟩, ⟨h1, h2⟩, h3⟩
    simp only at h2 h3
    subst h2; subst h3
    exact h1
  · intro h
    exact ⟨(x, t), ⟨h, rfl⟩, rfl⟩
theorem chn_add (ES : List (Nat × Nat)) (x s t : Nat) : chn (ES ++ [(x, s)]) t = if s = t then x :: chn ES t else chn ES t := by
  by_cases h : s = t
  · simp [chn, List.filter_append, h]
  · simp [chn, List.filter_append, h]
theorem gBase_nodup {L : List Nat} {μ : zM} (h : gBase L μ) {i j c : Nat} (hi : L[i]? = some c) (hj : L[j]? = some c) : i = j := by
  have h1 := (h.2.2.1 i c hi).2.2
  have h2 := (h.2.2.1 j c hj).2.2
  omega
/-- what Graph.add does -/
def gAdded (μ : zM) (n c : Nat) (x : Int) (μ' : zM) : Prop := μ' 15 0 = ((n + 1 : Nat) : Int) ∧ (∀ j, μ' 16 j = if j = c then ((n + 1 : Nat) : Int) else μ 16 j) ∧ (∀ j, μ' 17 j = if j = n + 1 then (c : Int) else μ 17 j) ∧ (∀ j, μ' 21 j = if j = n + 1 then x else μ 21 j) ∧ (∀ j, μ' 23 j = if j = n + 1 then 0 else μ 23 j) ∧
  (∀ e, e < 12 → μ' 22 (12 * (n + 1) + e) = 0) ∧ (∀ j, j < 12 * (n + 1) → μ' 22 j = μ 22 j) ∧ ∀ q, q ≠ 15 → q ≠ 16 → q ≠ 17 → q ≠ 21 → q ≠ 22 → q ≠ 23 → μ' q = μ q
theorem gRep_add {L : List Nat} {ES : List (Nat × Nat)} {FB : List Nat} {μ μ' : zM} {c x : Nat} (h : gRep (L, ES, FB) μ) (hc : c < 4096) (hn : c ∉ L) (hl : L.length < 200) (ha : gAdded μ L.length c x μ') : gRep (L ++ [c], ES, FB ++ [x]) μ' := by
  obtain ⟨⟨b1, b2, b3, b4⟩, ⟨e1, e2, e3⟩, f1, f2⟩ := h
  obtain ⟨a1, a2, a3, a4, a5, a6, a7, a8⟩ := ha
  have a24 : μ' 24 = μ 24 := a8 24 (by omega) (by omega) (by omega) (by omega) (by omega) (by omega)
  have key : ∀ {α : Type} (l : List α) (y : α) (k : Nat) (z : α), (l ++ [y])[k]? = some z → l[k]? = some z ∨ (k = l.length ∧ z = y) := by
    intro α l y k z hk
    by_cases hkl : k < l.length
    · rw [List.getElem?_append_left hkl] at hk
      exact Or.inl hk
    · rw [List.getElem?_append_right (by omega)] at hk
      have h0 : k - l.length < 1 := (List.getElem?_eq_some_iff.mp hk).1
      have hk0 : k = l.length := by omega
      subst hk0
      simp at hk
      exact Or.inr ⟨rfl, hk.symm⟩
  refine ⟨⟨by rw [a1]; simp, by simp; omega, fun k d hk => ?_, fun d hd hdn => ?_⟩, ⟨fun q hq => ?_, fun y h1 h2 hy => ?_, fun t h1 h2 => ?_⟩, by simp; exact f1, fun k y hk => ?_⟩
  · rcases key L c k d hk with hk | ⟨rfl, rfl⟩
    · have hkl : k < L.length := (List.getElem?_eq_some_iff.mp hk).1
      obtain ⟨g1, g2, g3⟩ := b3 k d hk
      have hdc : d ≠ c := fun h => hn (h ▸ List.mem_of_getElem? hk)
      refine ⟨g1, ?_, ?_⟩
      · rw [a3, if_neg (by omega)]; exact g2
      · rw [a2, if_neg hdc]; exact g3
    · exact ⟨hc, by rw [a3, if_pos rfl], by rw [a2, if_pos rfl]⟩
  · have h1 : d ∉ L := fun h => hdn (List.mem_append_left _ h)
    have h2 : d ≠ c := fun h => hdn (h ▸ List.mem_append_right _ List.mem_cons_self)
    rw [a2, if_neg h2]
    exact b4 d hd h1
  · obtain ⟨g1, g2, g3⟩ := e1 q hq
    simp only [List.length_append, List.length_cons, List.length_nil]
    refine ⟨⟨g1.1, by have := g1.2; simp only at this; omega⟩, ⟨g2.1, by have := g2.2; simp only at this; omega⟩, ?_⟩
    rw [a7 _ g1.2]
    exact g3
  · simp only [List.length_append, List.length_cons, List.length_nil] at h2
    by_cases hy2 : y < 12 * (L.length + 1)
    · rw [a7 y hy2]
      exact e2 y h1 hy2 hy
    · have : y = 12 * (L.length + 1) + (y - 12 * (L.length + 1)) := by omega
      rw [this]
      exact a6 _ (by omega)
  · simp only [List.length_append, List.length_cons, List.length_nil] at h2
    by_cases ht : t = L.length + 1
    · subst ht
      rw [a5, if_pos rfl]
      have : chn ES (L.length + 1) = [] := by
        apply List.eq_nil_iff_forall_not_mem.mpr
        intro z hz
        have := (e1 _ (chn_mem.mp hz)).2.1
        simp only at this
        omega
      rw [this]
      rfl
    · rw [a5, if_neg ht]
      exact gCh_congr _ _ (fun z _ => by rw [a24]) (e3 t h1 (by simp only; omega))
  · rcases key FB x k y hk with hk | ⟨rfl, rfl⟩
    · have hkl : k < FB.length := (List.getElem?_eq_some_iff.mp hk).1
      rw [a4, if_neg (by simp only at f1; omega)]
      exact f2 k y hk
    · rw [a4, if_pos (by simp only at f1; omega)]
theorem gRep_first {μ μ' : zM} {c : Nat} (h16 : ∀ d, d < 4096 → μ 16 d = 0) (hc : c < 4096) (ha : gAdded μ 0 c 0 μ') : gRep ([c], [], [0]) μ' := by
  obtain ⟨a1, a2, a3, a4, a5, a6, a7, a8⟩ := ha
  refine ⟨⟨by rw [a1]; rfl, by simp, fun k d hk => ?_, fun d hd hdn => ?_⟩, ⟨fun q hq => by simp at hq, fun y h1 h2 hy => ?_, fun t h1 h2 => ?_⟩, rfl, fun k y hk => ?_⟩
  · have hk0 : k = 0 := by
      have : k < 1 := (List.getElem?_eq_some_iff.mp hk).1
      omega
    subst hk0
    simp at hk
    subst hk
    exact ⟨hc, by rw [a3, if_pos rfl], by rw [a2, if_pos rfl]⟩
  · have : d ≠ c := by simpa using hdn
    rw [a2, if_neg this]
    exact h16 d hd
  · have h2' : y < 24 := h2
    have : y = 12 * (0 + 1) + (y - 12) := by omega
    rw [this]
    exact a6 _ (by omega)
  · have h2' : t ≤ 1 := h2
    have : t = 0 + 1 := by omega
    subst this
    rw [a5, if_pos rfl]
    rfl
  · have hk0 : k = 0 := by
      have : k < 1 := (List.getElem?_eq_some_iff.mp hk).1
      omega
    subst hk0
    simp at hk
    subst hk
    rw [a4, if_pos rfl]
    rfl
theorem gRep_link {L : List Nat} {ES : List (Nat × Nat)} {FB : List Nat} {μ : zM} {x t : Nat} (h : gRep (L, ES, FB) μ) (ht : 1 ≤ t ∧ t ≤ L.length) (hx : 12 ≤ x ∧ x < 12 * (L.length + 1)) (hn : ∀ q ∈ ES, q.1 ≠ x) :
    gRep (L, ES ++ [(x, t)], FB) (zup (zup (zup μ 22 x t) 24 x (μ 23 t)) 23 t x) := by
  obtain ⟨⟨b1, b2, b3, b4⟩, ⟨e1, e2, e3⟩, f1, f2⟩ := h
  have m15 : zup (zup (zup μ 22 x t) 24 x (μ 23 t)) 23 t x 15 = μ 15 := by rw [zup_ne _ _ _ (by decide), zup_ne _ _ _ (by decide), zup_ne _ _ _ (by decide)]
  have m16 : zup (zup (zup μ 22 x t) 24 x (μ 23 t)) 23 t x 16 = μ 16 := by rw [zup_ne _ _ _ (by decide), zup_ne _ _ _ (by decide), zup_ne _ _ _ (by decide)]
  have m17 : zup (zup (zup μ 22 x t) 24 x (μ 23 t)) 23 t x 17 = μ 17 := by rw [zup_ne _ _ _ (by decide), zup_ne _ _ _ (by decide), zup_ne _ _ _ (by decide)]
  have m21 : zup (zup (zup μ 22 x t) 24 x (μ 23 t)) 23 t x 21 = μ 21 := by rw [zup_ne _ _ _ (by decide), zup_ne _ _ _ (by decide), zup_ne _ _ _ (by decide)]
  have m22 : ∀ j, zup (zup (zup μ 22 x t) 24 x (μ 23 t)) 23 t x 22 j = if j = x then (t : Int) else μ 22 j := by
    intro j
    rw [zup_ne _ _ _ (by decide), zup_ne _ _ _ (by decide), zup_at]
    simp
  have m24 : ∀ j, zup (zup (zup μ 22 x t) 24 x (μ 23 t)) 23 t x 24 j = if j = x then μ 23 t else μ 24 j := by
    intro j
    rw [zup_ne _ _ _ (by decide), zup_at]
    by_cases hj : j = x
    · simp [hj]
    · simp only [hj, and_false, if_false]
      rw [zup_ne _ _ _ (by decide)]
  have m23 : ∀ j, zup (zup (zup μ 22 x t) 24 x (μ 23 t)) 23 t x 23 j = if j = t then (x : Int) else μ 23 j := by
    intro j
    rw [zup_at]
    by_cases hj : j = t
    · simp [hj]
    · simp only [hj, and_false, if_false]
      rw [zup_ne _ _ _ (by decide), zup_ne _ _ _ (by decide)]
  generalize zup (zup (zup μ 22 x t) 24 x (μ 23 t)) 23 t x = μ' at m15 m16 m17 m21 m22 m23 m24
  refine ⟨⟨by rw [m15]; exact b1, b2, fun k c hk => by rw [m16, m17]; exact b3 k c hk, fun c hc hcn => by rw [m16]; exact b4 c hc hcn⟩, ⟨fun q hq => ?_, fun y h1 h2 hy => ?_, fun s h1 h2 => ?_⟩, f1, fun k y hk => by rw [m21]; exact f2 k y hk⟩
  · rcases List.mem_append.mp hq with hq | hq
    · obtain ⟨g1, g2, g3⟩ := e1 q hq
      exact ⟨g1, g2, by rw [m22, if_neg (hn q hq)]; exact g3⟩
    · have : q = (x, t) := by simpa using hq
      subst this
      exact ⟨hx, ht, by rw [m22, if_pos rfl]⟩
  · have hyx : y ≠ x := fun h => hy (x, t) (List.mem_append_right _ List.mem_cons_self) h.symm
    rw [m22, if_neg hyx]
    exact e2 y h1 h2 (fun q hq => hy q (List.mem_append_left _ hq))
  · rw [chn_add, m23]
    have hc : ∀ u, 1 ≤ u → u ≤ L.length → gCh μ' (μ 23 u) (chn ES u) := fun u hu1 hu2 =>
      gCh_congr _ _ (fun z hz => by rw [m24, if_neg (hn _ (chn_mem.mp hz))]) (e3 u hu1 hu2)
    by_cases hs : t = s
    · subst hs
      rw [if_pos rfl, if_pos rfl]
      refine ⟨rfl, ?_⟩
      rw [m24, if_pos rfl]
      exact hc t h1 h2
    · rw [if_neg hs, if_neg (fun h => hs h.symm)]
      exact hc s h1 h2
end
section
def gAddP (μ : zM) (n c : Nat) (x : Int) (j : Nat) (μ' : zM) : Prop := μ' 15 0 = ((n + 1 : Nat) : Int) ∧ (∀ j, μ' 16 j = if j = c then ((n + 1 : Nat) : Int) else μ 16 j) ∧ (∀ j, μ' 17 j = if j = n + 1 then (c : Int) else μ 17 j) ∧ (∀ j, μ' 21 j = if j = n + 1 then x else μ 21 j) ∧ (∀ j, μ' 23 j = if j = n + 1 then 0 else μ 23 j) ∧
  (∀ e, e < j → μ' 22 (12 * (n + 1) + e) = 0) ∧ (∀ j, j < 12 * (n + 1) → μ' 22 j = μ 22 j) ∧ ∀ q, q ≠ 15 → q ≠ 16 → q ≠ 17 → q ≠ 21 → q ≠ 22 → q ≠ 23 → μ' q = μ q
theorem gAddP_step {μ μ1 : zM} {n c j : Nat} {x : Int} (h : gAddP μ n c x j μ1) : gAddP μ n c x (j + 1) (zup μ1 22 (12 * (n + 1) + j) 0) := by
  obtain ⟨a1, a2, a3, a4, a5, a6, a7, a8⟩ := h
  refine ⟨by rw [zup_ne _ _ _ (by decide)]; exact a1, fun k => by rw [zup_ne _ _ _ (by decide)]; exact a2 k, fun k => by rw [zup_ne _ _ _ (by decide)]; exact a3 k, fun k => by rw [zup_ne _ _ _ (by decide)]; exact a4 k, fun k => by rw [zup_ne _ _ _ (by decide)]; exact a5 k, fun e he => ?_, fun k hk => ?_, fun q q1 q2 q3 q4 q5 q6 => by rw [zup_ne _ _ _ q5]; exact a8 q q1 q2 q3 q4 q5 q6⟩
  · rw [zup_at]
    by_cases h : e = j
    · simp [h]
    · have : ¬ (12 * (n + 1) + e = 12 * (n + 1) + j) := by omega
      simp only [this, and_false, if_false]
      exact a6 e (by omega)
  · rw [zup_at]
    have : ¬ (k = 12 * (n + 1) + j) := by omega
    simp only [this, and_false, if_false]
    exact a7 k hk
/-- nodes before i have been taken out of the table of numbers -/
def gClr (L : List Nat) (μ : zM) (i : Nat) (μ1 : zM) : Prop := (∀ q, q ≠ 16 → μ1 q = μ q) ∧ ∀ c : Nat, c < 4096 → (c ∉ L ∨ ∃ k, k < i ∧ L[k]? = some c) → μ1 16 c = 0
theorem gClr_step {L : List Nat} {μ μ1 : zM} {i c : Nat} (h : gClr L μ i μ1) (hc : L[i]? = some c) : gClr L μ (i + 1) (zup μ1 16 c 0) := by
  refine ⟨fun q hq => by rw [zup_ne _ _ _ hq]; exact h.1 q hq, fun d hd hdd => ?_⟩
  rw [zup_at]
  by_cases hdc : d = c
  · simp [hdc]
  · simp only [hdc, and_false, if_false]
    refine h.2 d hd (hdd.imp id (fun ⟨k, hk, hkd⟩ => ⟨k, ?_, hkd⟩))
    by_cases hki : k = i
    · subst hki
      rw [hc] at hkd
      cases hkd
      exact absurd rfl hdc
    · omega
theorem gClr_all {L : List Nat} {μ μ1 : zM} (h : gClr L μ L.length μ1) : ∀ d : Nat, d < 4096 → μ1 16 d = 0 := by
  intro d hd
  by_cases hdl : d ∈ L
  · obtain ⟨k, hk⟩ := List.getElem?_of_mem hdl
    exact h.2 d hd (Or.inr ⟨k, (List.getElem?_eq_some_iff.mp hk).1, hk⟩)
  · exact h.2 d hd (Or.inl hdl)
set_option maxRecDepth 100000 in
set_option maxHeartbeats 4000000 in
theorem m_G_add (l : Launch) (μ : zM) {n c : Nat} {x : Int} (hc : c < 4096) (hn : n < 200) (hn0 : μ 15 0 = (n : Int)) :
    zC l y_G_add b_G_add 4 none [] 0 0 0 false [zp 15, zi (c : Int), zi x] μ (zRv (fun μ' => gAdded μ n c x μ')) := by
  refine zC.of (own := n_G) (L := [some (zp 15), some (zi (c : Int)), some (zi x), none]) (by decide) rfl (by simp [zcat]) (Nat.le_of_ble_eq_true rfl) rfl (fun Γ => ?_)
  refine zU_aload_n d_G_add_0 rfl ?_
  refine zU_dup d_G_add_1 rfl ?_
  refine zU_getI (v := (n : Int)) d_G_add_2 f_G_43 (by decide) rfl rfl (hn0) ?_
  refine zU_iconst d_G_add_5 ?_
  refine zU_iadd d_G_add_6 ?_
  refine zU_putI d_G_add_7 f_G_43 p_G_count (by decide) rfl rfl (Or.inl rfl) ?_
  refine zU_aload_n d_G_add_10 rfl ?_
  refine zU_getR 16 d_G_add_11 f_G_9 (by decide) rfl rfl rfl ?_
  refine zU_iload_n d_G_add_14 rfl ?_
  refine zU_aload_n d_G_add_15 rfl ?_
  refine zU_getI (v := (n : Int) + 1) d_G_add_16 f_G_43 (by decide) rfl rfl (by simp [zup_at]) ?_
  refine zU_iast d_G_add_19 (by decide) rfl (by decide) (by omega) ?_
  refine zU_aload_n d_G_add_20 rfl ?_
  refine zU_getR 17 d_G_add_21 f_G_15 (by decide) rfl rfl rfl ?_
  refine zU_aload_n d_G_add_24 rfl ?_
  refine zU_getI (v := (n : Int) + 1) d_G_add_25 f_G_43 (by decide) rfl rfl (by simp [zup_at]) ?_
  refine zU_iload_n d_G_add_28 rfl ?_
  refine zU_iast d_G_add_29 (by decide) rfl (by decide) (by omega) ?_
  refine zU_aload_n d_G_add_30 rfl ?_
  refine zU_getR 21 d_G_add_31 f_G_28 (by decide) rfl rfl rfl ?_
  refine zU_aload_n d_G_add_34 rfl ?_
  refine zU_getI (v := (n : Int) + 1) d_G_add_35 f_G_43 (by decide) rfl rfl (by simp [zup_at]) ?_
  refine zU_iload_n d_G_add_38 rfl ?_
  refine zU_iast d_G_add_39 (by decide) rfl (by decide) (by omega) ?_
  refine zU_aload_n d_G_add_40 rfl ?_
  refine zU_getR 23 d_G_add_41 f_G_34 (by decide) rfl rfl rfl ?_
  refine zU_aload_n d_G_add_44 rfl ?_
  refine zU_getI (v := (n : Int) + 1) d_G_add_45 f_G_43 (by decide) rfl rfl (by simp [zup_at]) ?_
  refine zU_iconst d_G_add_48 ?_
  refine zU_iast d_G_add_49 (by decide) rfl (by decide) (by omega) ?_
  refine zU_iconst d_G_add_50 ?_
  refine zU_istore_n d_G_add_51 (by decide) ?_
  refine zU.eqL (L' := [some (zp 15), some (zi (c : Int)), some (zi x), some (zi 0)]) rfl ?_
  have hJ52 : ∀ (d : Nat) (e : Nat) (μ1 : zM), e + d = 12 → gAddP μ n c x e μ1 → zU Γ b_G_add n_G 4 none [] (zRm 0 0 0) 0 0 (zFin Γ 0 false (zRv (fun μ' => gAdded μ n c x μ'))) false 0 μ1 52 [some (zp 15), some (zi (c : Int)), some (zi x), some (zi (e : Int))] [] := by
    intro d
    induction d using Nat.strongRecOn with
    | _ d ih52 =>
      intro e μ1 hd hb
      refine zU_iload_n d_G_add_52 rfl ?_
      refine zU_bipush d_G_add_53 (by decide) ?_
      refine zU_icmp_ge 79 d_G_add_55 (by decide) (by omega) (by omega) (fun h55 => ?_) (fun h55 => ?_)
      · exact zU_return d_G_add_79 rfl (by decide) (by decide) (⟨rfl, by have he : e = 12 := (by omega); subst he; exact hb⟩)
      · refine zU_aload_n d_G_add_58 rfl ?_
        refine zU_getR 22 d_G_add_59 f_G_31 (by decide) rfl rfl rfl ?_
        refine zU_aload_n d_G_add_62 rfl ?_
        refine zU_getI (v := ((n + 1 : Nat) : Int)) d_G_add_63 f_G_43 (by decide) rfl rfl (hb.1) ?_
        refine zU_bipush d_G_add_66 (by decide) ?_
        refine zU_imul d_G_add_68 ?_
        refine zU_iload_n d_G_add_69 rfl ?_
        refine zU_iadd d_G_add_70 ?_
        refine zU_iconst d_G_add_71 ?_
        refine zU_iast d_G_add_72 (by decide) rfl (by decide) (by omega) ?_
        refine zU.eqM (μ' := zup μ1 22 (12 * (n + 1) + e) 0) (by congr 1; omega) ?_
        refine zU_iinc d_G_add_73 rfl ?_
        refine zU.eqL (L' := [some (zp 15), some (zi (c : Int)), some (zi x), some (zi (((e + 1 : Nat) : Int)))]) (by first | rfl | (show _ = _; simp only [List.set]; congr 3; omega)) ?_
        refine zU_goto 52 d_G_add_76 (by decide) ?_
        exact ih52 (d - 1) (by omega) (e + 1) _ (by omega) (gAddP_step hb)
  exact hJ52 12 0 _ (by omega) (by
    refine ⟨?_, fun j => ?_, fun j => ?_, fun j => ?_, fun j => ?_, fun e he => absurd he (by omega), fun j hj => ?_, fun q q1 q2 q3 q4 q5 q6 => ?_⟩
    · simp [zup_at]
    · simp [zup_at]
    · simp [zup_at]
    · simp [zup_at]
    · simp [zup_at]
    · simp [zup_at]
    · funext j; simp [zup_at, q1, q2, q3, q4, q6])
set_option maxRecDepth 100000 in
set_option maxHeartbeats 4000000 in
theorem m_G_begin (l : Launch) (μ : zM) {L : List Nat} {c : Nat} (hB : gBase L μ) (hc : c < 4096) :
    zC l y_G_begin b_G_begin 3 none [] 1 0 23 false [zp 15, zi (c : Int)] μ (zRv (fun μ' => gRep ([c], [], [0]) μ' ∧ ∀ q, q ≠ 15 → q ≠ 16 → q ≠ 17 → q ≠ 21 → q ≠ 22 → q ≠ 23 → μ' q = μ q)) := by
  refine zC.of (own := n_G) (L := [some (zp 15), some (zi (c : Int)), none]) (by decide) rfl (by simp [zcat]) (Nat.le_of_ble_eq_true rfl) rfl (fun Γ => ?_)
  have hl := hB.2.1
  refine zU_iconst d_G_begin_0 ?_
  refine zU_istore_n d_G_begin_1 (by decide) ?_
  refine zU.eqL (L' := [some (zp 15), some (zi (c : Int)), some (zi 1)]) rfl ?_
  have hJ2 : ∀ (d : Nat) (i : Nat) (μ1 : zM), i + d = L.length → gClr L μ i μ1 → zU Γ b_G_begin n_G 3 none [] (zRm 1 0 23) 0 0 (zFin Γ 0 false (zRv (fun μ' => gRep ([c], [], [0]) μ' ∧ ∀ q, q ≠ 15 → q ≠ 16 → q ≠ 17 → q ≠ 21 → q ≠ 22 → q ≠ 23 → μ' q = μ q))) false 0 μ1 2 [some (zp 15), some (zi (c : Int)), some (zi ((i + 1 : Nat) : Int))] [] := by
    intro d
    induction d using Nat.strongRecOn with
    | _ d ih2 =>
      intro i μ1 hd hb
      refine zU_iload_n d_G_begin_2 rfl ?_
      refine zU_aload_n d_G_begin_3 rfl ?_
      refine zU_getI (v := (L.length : Int)) d_G_begin_4 f_G_43 (by decide) rfl rfl (by rw [hb.1 15 (by decide)]; exact hB.1) ?_
      refine zU_icmp_gt 28 d_G_begin_7 (by decide) (by omega) (by omega) (fun h7 => ?_) (fun h7 => ?_)
      · have hi : i = L.length := by omega
        refine zU_aload_n d_G_begin_28 rfl ?_
        refine zU_iconst d_G_begin_29 ?_
        refine zU_putI d_G_begin_30 f_G_43 p_G_count (by decide) rfl rfl (Or.inl rfl) ?_
        refine zU_aload_n d_G_begin_33 rfl ?_
        refine zU_iload_n d_G_begin_34 rfl ?_
        refine zU_iconst d_G_begin_35 ?_
        refine zU_callVv (p0 := 15) [zi (c : Int), zi 0] d_G_begin_36 k_G_47 rfl (by decide) rfl rfl (by decide) (Nat.le_of_ble_eq_true rfl) (fun l => m_G_add l (zup μ1 15 0 0) (n := 0) (c := c) (x := 0) hc (by decide) (by simp [zup_at])) (fun μ36 h36 => ?_)
        exact zU_return d_G_begin_39 rfl (by decide) (by decide) (⟨rfl, gRep_first (fun d hd => by rw [zup_ne _ _ _ (by decide)]; exact gClr_all (by rw [hi] at hb; exact hb) d hd) hc h36, fun q q1 q2 q3 q4 q5 q6 => by rw [h36.2.2.2.2.2.2.2 q q1 q2 q3 q4 q5 q6, zup_ne _ _ _ q1]; exact hb.1 q q2⟩)
      · obtain ⟨ci, hci⟩ : ∃ ci, L[i]? = some ci := ⟨_, List.getElem?_eq_getElem (by omega)⟩
        have hci4 := (hB.2.2.1 i ci hci).1
        refine zU_aload_n d_G_begin_10 rfl ?_
        refine zU_getR 16 d_G_begin_11 f_G_9 (by decide) rfl rfl rfl ?_
        refine zU_aload_n d_G_begin_14 rfl ?_
        refine zU_getR 17 d_G_begin_15 f_G_15 (by decide) rfl rfl rfl ?_
        refine zU_iload_n d_G_begin_18 rfl ?_
        refine zU_iald (v := (ci : Int)) d_G_begin_19 (by decide) rfl (by decide) (by omega) (by rw [hb.1 17 (by decide)]; exact (hB.2.2.1 i ci hci).2.1) ?_
        refine zU_iconst d_G_begin_20 ?_
        refine zU_iast d_G_begin_21 (by decide) rfl (by decide) (by omega) ?_
        refine zU.eqM (μ' := zup μ1 16 ci 0) rfl ?_
        refine zU_iinc d_G_begin_22 rfl ?_
        refine zU.eqL (L' := [some (zp 15), some (zi (c : Int)), some (zi (((i + 1 + 1 : Nat) : Int)))]) (by first | rfl | (show _ = _; simp only [List.set]; congr 3; omega)) ?_
        refine zU_goto 2 d_G_begin_25 (by decide) ?_
        exact ih2 (d - 1) (by omega) (i + 1) _ (by omega) (gClr_step hb hci)
  refine zU.loose ?_
  exact hJ2 L.length 0 μ (by omega) ⟨fun _ _ => rfl, fun d hd h => h.elim (hB.2.2.2 d hd) (fun ⟨k, hk, _⟩ => absurd hk (by omega))⟩
set_option maxRecDepth 100000 in
set_option maxHeartbeats 4000000 in
theorem m_G_link (l : Launch) (μ : zM) {L : List Nat} {ES : List (Nat × Nat)} {FB : List Nat} {f e c : Nat} (hG : gRep (L, ES, FB) μ) (hf : 1 ≤ f ∧ f ≤ L.length) (he : e < 12) (hc : c < 4096) (hn : ∀ q ∈ ES, q.1 ≠ 12 * f + e) :
    zC l y_G_link b_G_link 6 (some .int) [] 1 0 23 false [zp 15, zi (f : Int), zi (e : Int), zi (c : Int)] μ (zRi (fun r μ' => ((∃ k : Nat, L[k]? = some c ∧ r = ((k + 1 : Nat) : Int) ∧ gRep (L, ES ++ [(12 * f + e, k + 1)], FB) μ') ∨ (c ∉ L ∧ L.length < 200 ∧ r = ((L.length + 1 : Nat) : Int) ∧ gRep (L ++ [c], ES ++ [(12 * f + e, L.length + 1)], FB ++ [12 * f + e]) μ') ∨ (c ∉ L ∧ L.length = 200 ∧ r = 0 ∧ μ' = μ)) ∧ ∀ q, q ≠ 15 → q ≠ 16 → q ≠ 17 → q ≠ 21 → q ≠ 22 → q ≠ 23 → q ≠ 24 → μ' q = μ q)) := by
  refine zC.of (own := n_G) (L := [some (zp 15), some (zi (f : Int)), some (zi (e : Int)), some (zi (c : Int)), none, none]) (by decide) rfl (by simp [zcat]) (Nat.le_of_ble_eq_true rfl) rfl (fun Γ => ?_)
  obtain ⟨hB, hE, hF⟩ := id hG
  have hl := hB.2.1
  simp only at hl
  refine zU_iload_n d_G_link_0 rfl ?_
  refine zU_bipush d_G_link_1 (by decide) ?_
  refine zU_imul d_G_link_3 ?_
  refine zU_iload_n d_G_link_4 rfl ?_
  refine zU_iadd d_G_link_5 ?_
  refine zU_istore d_G_link_6 (by decide) ?_
  refine zU.eqL (L' := [some (zp 15), some (zi (f : Int)), some (zi (e : Int)), some (zi (c : Int)), some (zi (((f : Int) * 12) + (e : Int))), none]) rfl ?_
  have hr14 : -2147483648 ≤ μ 16 c ∧ μ 16 c ≤ 2147483647 := by
    by_cases h : c ∈ L
    · obtain ⟨k, hk⟩ := List.getElem?_of_mem h
      have h1 := (hB.2.2.1 k c hk).2.2
      have h2 := (List.getElem?_eq_some_iff.mp hk).1
      omega
    · rw [hB.2.2.2 c hc h]; omega
  refine zU.eqL (L' := [some (zp 15), some (zi (f : Int)), some (zi (e : Int)), some (zi (c : Int)), some (zi ((12 * f + e : Nat) : Int)), none]) (by rw [show ((f : Int) * 12 + (e : Int)) = ((12 * f + e : Nat) : Int) by omega]) ?_
  refine zU_aload_n d_G_link_8 rfl ?_
  refine zU_getR 16 d_G_link_9 f_G_9 (by decide) rfl rfl rfl ?_
  refine zU_iload_n d_G_link_12 rfl ?_
  refine zU_iald (v := μ 16 c) d_G_link_13 (by decide) rfl (by decide) (by omega) (rfl) ?_
  refine zU_if_ne 36 d_G_link_14 (by decide) (hr14) (fun h14 => ?_) (fun h14 => ?_)
  · have hcL : c ∈ L := Classical.byContradiction (fun h => h14 (hB.2.2.2 c hc h))
    obtain ⟨k, hk⟩ := List.getElem?_of_mem hcL
    have hkl := (List.getElem?_eq_some_iff.mp hk).1
    refine zU_aload_n d_G_link_36 rfl ?_
    refine zU_getR 16 d_G_link_37 f_G_9 (by decide) rfl rfl rfl ?_
    refine zU_iload_n d_G_link_40 rfl ?_
    refine zU_iald (v := ((k + 1 : Nat) : Int)) d_G_link_41 (by decide) rfl (by decide) (by omega) ((hB.2.2.1 k c hk).2.2) ?_
    refine zU_istore d_G_link_42 (by decide) ?_
    refine zU.eqL (L' := [some (zp 15), some (zi (f : Int)), some (zi (e : Int)), some (zi (c : Int)), some (zi ((12 * f + e : Nat) : Int)), some (zi (((k + 1 : Nat) : Int)))]) rfl ?_
    refine zU_aload_n d_G_link_44 rfl ?_
    refine zU_getR 22 d_G_link_45 f_G_31 (by decide) rfl rfl rfl ?_
    refine zU_iload d_G_link_48 rfl ?_
    refine zU_iload d_G_link_50 rfl ?_
    refine zU_iast d_G_link_52 (by decide) rfl (by decide) (by omega) ?_
    refine zU.eqM (μ' := zup μ 22 (12 * f + e) ((k + 1 : Nat) : Int)) rfl ?_
    refine zU_aload_n d_G_link_53 rfl ?_
    refine zU_getR 24 d_G_link_54 f_G_37 (by decide) rfl rfl rfl ?_
    refine zU_iload d_G_link_57 rfl ?_
    refine zU_aload_n d_G_link_59 rfl ?_
    refine zU_getR 23 d_G_link_60 f_G_34 (by decide) rfl rfl rfl ?_
    refine zU_iload d_G_link_63 rfl ?_
    refine zU_iald (v := μ 23 (k + 1)) d_G_link_65 (by decide) rfl (by decide) (by omega) (by rw [zup_ne _ _ _ (by decide)]; rfl) ?_
    refine zU_iast d_G_link_66 (by decide) rfl (by decide) (by omega) ?_
    refine zU.eqM (μ' := zup (zup μ 22 (12 * f + e) ((k + 1 : Nat) : Int)) 24 (12 * f + e) (μ 23 (k + 1))) rfl ?_
    refine zU_aload_n d_G_link_67 rfl ?_
    refine zU_getR 23 d_G_link_68 f_G_34 (by decide) rfl rfl rfl ?_
    refine zU_iload d_G_link_71 rfl ?_
    refine zU_iload d_G_link_73 rfl ?_
    refine zU_iast d_G_link_75 (by decide) rfl (by decide) (by omega) ?_
    refine zU.eqM (μ' := zup (zup (zup μ 22 (12 * f + e) ((k + 1 : Nat) : Int)) 24 (12 * f + e) (μ 23 (k + 1))) 23 (k + 1) ((12 * f + e : Nat) : Int)) rfl ?_
    refine zU_iload d_G_link_76 rfl ?_
    exact zU_ireturn d_G_link_78 (Or.inl rfl) (by decide) (by decide) (⟨_, rfl, Or.inl ⟨k, hk, rfl, gRep_link hG (by omega) (by omega) hn⟩, fun q _ _ _ _ q5 q6 q7 => by rw [zup_ne _ _ _ q6, zup_ne _ _ _ q7, zup_ne _ _ _ q5]⟩)
  · have hcn : c ∉ L := by
      intro h
      obtain ⟨k, hk⟩ := List.getElem?_of_mem h
      have h1 := (hB.2.2.1 k c hk).2.2
      omega
    refine zU_aload_n d_G_link_17 rfl ?_
    refine zU_getI (v := (L.length : Int)) d_G_link_18 f_G_43 (by decide) rfl rfl (hB.1) ?_
    refine zU_sipush d_G_link_21 (by decide) ?_
    refine zU_icmp_ne 29 d_G_link_24 (by decide) (by omega) (by omega) (fun h24 => ?_) (fun h24 => ?_)
    · refine zU_aload_n d_G_link_29 rfl ?_
      refine zU_iload_n d_G_link_30 rfl ?_
      refine zU_iload d_G_link_31 rfl ?_
      refine zU_callVv (p0 := 15) [zi (c : Int), zi ((12 * f + e : Nat) : Int)] d_G_link_33 k_G_47 rfl (by decide) rfl rfl (by decide) (Nat.le_of_ble_eq_true rfl) (fun l => m_G_add l μ (n := L.length) (c := c) (x := ((12 * f + e : Nat) : Int)) hc (by omega) hB.1) (fun μ33 h33 => ?_)
      have hG2 := gRep_add hG hc hcn (by omega) h33
      have hq33 := h33.2.2.2.2.2.2.2
      refine zU_aload_n d_G_link_36 rfl ?_
      refine zU_getR 16 d_G_link_37 f_G_9 (by decide) rfl rfl rfl ?_
      refine zU_iload_n d_G_link_40 rfl ?_
      refine zU_iald (v := ((L.length + 1 : Nat) : Int)) d_G_link_41 (by decide) rfl (by decide) (by omega) ((h33.2.1 c).trans (if_pos rfl)) ?_
      refine zU_istore d_G_link_42 (by decide) ?_
      refine zU.eqL (L' := [some (zp 15), some (zi (f : Int)), some (zi (e : Int)), some (zi (c : Int)), some (zi ((12 * f + e : Nat) : Int)), some (zi (((L.length + 1 : Nat) : Int)))]) rfl ?_
      refine zU_aload_n d_G_link_44 rfl ?_
      refine zU_getR 22 d_G_link_45 f_G_31 (by decide) rfl rfl rfl ?_
      refine zU_iload d_G_link_48 rfl ?_
      refine zU_iload d_G_link_50 rfl ?_
      refine zU_iast d_G_link_52 (by decide) rfl (by decide) (by omega) ?_
      refine zU.eqM (μ' := zup μ33 22 (12 * f + e) ((L.length + 1 : Nat) : Int)) rfl ?_
      refine zU_aload_n d_G_link_53 rfl ?_
      refine zU_getR 24 d_G_link_54 f_G_37 (by decide) rfl rfl rfl ?_
      refine zU_iload d_G_link_57 rfl ?_
      refine zU_aload_n d_G_link_59 rfl ?_
      refine zU_getR 23 d_G_link_60 f_G_34 (by decide) rfl rfl rfl ?_
      refine zU_iload d_G_link_63 rfl ?_
      refine zU_iald (v := μ33 23 (L.length + 1)) d_G_link_65 (by decide) rfl (by decide) (by omega) (by rw [zup_ne _ _ _ (by decide)]; rfl) ?_
      refine zU_iast d_G_link_66 (by decide) rfl (by decide) (by omega) ?_
      refine zU.eqM (μ' := zup (zup μ33 22 (12 * f + e) ((L.length + 1 : Nat) : Int)) 24 (12 * f + e) (μ33 23 (L.length + 1))) rfl ?_
      refine zU_aload_n d_G_link_67 rfl ?_
      refine zU_getR 23 d_G_link_68 f_G_34 (by decide) rfl rfl rfl ?_
      refine zU_iload d_G_link_71 rfl ?_
      refine zU_iload d_G_link_73 rfl ?_
      refine zU_iast d_G_link_75 (by decide) rfl (by decide) (by omega) ?_
      refine zU.eqM (μ' := zup (zup (zup μ33 22 (12 * f + e) ((L.length + 1 : Nat) : Int)) 24 (12 * f + e) (μ33 23 (L.length + 1))) 23 (L.length + 1) ((12 * f + e : Nat) : Int)) rfl ?_
      refine zU_iload d_G_link_76 rfl ?_
      exact zU_ireturn d_G_link_78 (Or.inl rfl) (by decide) (by decide) (⟨_, rfl, Or.inr (Or.inl ⟨hcn, by omega, rfl, gRep_link hG2 (by simp) (by simp; omega) hn⟩), fun q q1 q2 q3 q4 q5 q6 q7 => by rw [zup_ne _ _ _ q6, zup_ne _ _ _ q7, zup_ne _ _ _ q5]; exact hq33 q q1 q2 q3 q4 q5 q6⟩)
    · refine zU_iconst d_G_link_27 ?_
      exact zU_ireturn d_G_link_28 (Or.inl rfl) (by decide) (by decide) (⟨_, rfl, Or.inr (Or.inr ⟨hcn, by omega, rfl, rfl⟩), fun q _ _ _ _ _ _ _ => rfl⟩)
set_option maxRecDepth 100000 in
set_option maxHeartbeats 4000000 in
theorem m_G_keptTarget (l : Launch) (μ : zM) {k e : Nat} (hk : 1 ≤ k ∧ k ≤ 200) (he : e < 12) (ht : 0 ≤ μ 22 (12 * k + e) ∧ μ 22 (12 * k + e) ≤ 200) (hb : ∀ j, j ≤ 200 → 1 ≤ j → μ 19 j = 0 ∨ μ 19 j = 1) :
    zC l y_G_keptTarget b_G_keptTarget 4 (some .int) [] 0 0 0 true [zp 15, zi (k : Int), zi (e : Int)] μ (zRi (fun r μ' => μ' = μ ∧ r = if ¬ μ 22 (12 * k + e) = 0 ∧ μ 19 (μ 22 (12 * k + e)).toNat = 1 then μ 22 (12 * k + e) else 0)) := by
  refine zC.of (own := n_G) (L := [some (zp 15), some (zi (k : Int)), some (zi (e : Int)), none]) (by decide) rfl (by simp [zcat]) (Nat.le_of_ble_eq_true rfl) rfl (fun Γ => ?_)
  refine zU_aload_n d_G_keptTarget_0 rfl ?_
  refine zU_getR 22 d_G_keptTarget_1 f_G_31 (by decide) rfl rfl rfl ?_
  refine zU_iload_n d_G_keptTarget_4 rfl ?_
  refine zU_bipush d_G_keptTarget_5 (by decide) ?_
  refine zU_imul d_G_keptTarget_7 ?_
  refine zU_iload_n d_G_keptTarget_8 rfl ?_
  refine zU_iadd d_G_keptTarget_9 ?_
  refine zU_iald (v := μ 22 (12 * k + e)) d_G_keptTarget_10 (by decide) rfl (by decide) (by omega) (by congr 1; omega) ?_
  refine zU_istore_n d_G_keptTarget_11 (by decide) ?_
  refine zU.eqL (L' := [some (zp 15), some (zi (k : Int)), some (zi (e : Int)), some (zi (μ 22 (12 * k + e)))]) rfl ?_
  refine zU_iload_n d_G_keptTarget_12 rfl ?_
  refine zU_if_eq 29 d_G_keptTarget_13 (by decide) (by omega) (fun h13 => ?_) (fun h13 => ?_)
  · refine zU_iconst d_G_keptTarget_29 ?_
    exact zU_ireturn d_G_keptTarget_30 (Or.inl rfl) (by decide) (by decide) (⟨_, rfl, rfl, by rw [if_neg (fun h => h.1 h13)]⟩)
  · have hb9 := hb (μ 22 (12 * k + e)).toNat (by omega) (by omega)
    refine zU_aload_n d_G_keptTarget_16 rfl ?_
    refine zU_getR 19 d_G_keptTarget_17 f_G_22 (by decide) rfl rfl rfl ?_
    refine zU_iload_n d_G_keptTarget_20 rfl ?_
    refine zU_zald (v := μ 19 ((μ 22 (12 * k + e))).toNat) d_G_keptTarget_21 (by decide) rfl (by decide) (by omega) (rfl) ?_
    refine zU_if_eq 29 d_G_keptTarget_22 (by decide) (by omega) (fun h22 => ?_) (fun h22 => ?_)
    · refine zU_iconst d_G_keptTarget_29 ?_
      exact zU_ireturn d_G_keptTarget_30 (Or.inl rfl) (by decide) (by decide) (⟨_, rfl, rfl, by rw [if_neg (fun h => by omega)]⟩)
    · refine zU_iload_n d_G_keptTarget_25 rfl ?_
      refine zU_goto 30 d_G_keptTarget_26 (by decide) ?_
      exact zU_ireturn d_G_keptTarget_30 (Or.inl rfl) (by decide) (by decide) (⟨_, rfl, rfl, by rw [if_pos ⟨h13, by omega⟩]⟩)
end
section
/-! exploring: after t questions (node t / 12, event t % 12) the graph is gAt nxt c0 t -/
def gStep (nxt : Nat → Nat → Option Nat) (g : gT) (k e : Nat) : gT := match g.1[k]? with
  | none => g
  | some c => match nxt c e with
    | none => g
    | some d => if d ∈ g.1 then (g.1, g.2.1 ++ [(12 * (k + 1) + e, g.1.idxOf d + 1)], g.2.2) else (g.1 ++ [d], g.2.1 ++ [(12 * (k + 1) + e, g.1.length + 1)], g.2.2 ++ [12 * (k + 1) + e])
def gAt (nxt : Nat → Nat → Option Nat) (c0 : Nat) : Nat → gT
  | 0 => ([c0], [], [0])
  | t + 1 => gStep nxt (gAt nxt c0 t) (t / 12) (t % 12)
theorem gStep_none {nxt : Nat → Nat → Option Nat} {g : gT} {k e c : Nat} (hk : g.1[k]? = some c) (hn : nxt c e = none) : gStep nxt g k e = g := by
  simp only [gStep, hk, hn]
theorem gStep_off {nxt : Nat → Nat → Option Nat} {g : gT} {k e : Nat} (hk : g.1[k]? = none) : gStep nxt g k e = g := by
  simp only [gStep, hk]
theorem idxOf_of {L : List Nat} {d j : Nat} (hj : L[j]? = some d) (hu : ∀ i, L[i]? = some d → i = j) : L.idxOf d = j := by
  have hm : d ∈ L := List.mem_of_getElem? hj
  have hl := List.idxOf_lt_length_of_mem hm
  have : L[L.idxOf d]? = some d := by
    rw [List.getElem?_eq_getElem hl, List.getElem_idxOf hl]
  exact hu _ this
theorem gStep_old {nxt : Nat → Nat → Option Nat} {L : List Nat} {ES : List (Nat × Nat)} {FB : List Nat} {k e c d j : Nat} (hk : L[k]? = some c) (hn : nxt c e = some d) (hj : L[j]? = some d) (hu : ∀ i, L[i]? = some d → i = j) :
    gStep nxt (L, ES, FB) k e = (L, ES ++ [(12 * (k + 1) + e, j + 1)], FB) := by
  have hm : d ∈ L := List.mem_of_getElem? hj
  simp only [gStep, hk, hn, if_pos hm, idxOf_of hj hu]
theorem gStep_new {nxt : Nat → Nat → Option Nat} {L : List Nat} {ES : List (Nat × Nat)} {FB : List Nat} {k e c d : Nat} (hk : L[k]? = some c) (hn : nxt c e = some d) (hd : d ∉ L) :
    gStep nxt (L, ES, FB) k e = (L ++ [d], ES ++ [(12 * (k + 1) + e, L.length + 1)], FB ++ [12 * (k + 1) + e]) := by
  simp only [gStep, hk, hn, if_neg hd]
theorem gStep_pre (nxt : Nat → Nat → Option Nat) (g : gT) (k e : Nat) : ∃ M, (gStep nxt g k e).1 = g.1 ++ M := by
  unfold gStep
  split
  · exact ⟨[], by simp⟩
  · split
    · exact ⟨[], by simp⟩
    · split
      · exact ⟨[], by simp⟩
      · exact ⟨_, rfl⟩
theorem gAt_pre (nxt : Nat → Nat → Option Nat) (c0 t : Nat) : ∀ s, ∃ M, (gAt nxt c0 (t + s)).1 = (gAt nxt c0 t).1 ++ M
  | 0 => ⟨[], by simp⟩
  | s + 1 => by
    obtain ⟨M, hM⟩ := gAt_pre nxt c0 t s
    obtain ⟨M2, hM2⟩ := gStep_pre nxt (gAt nxt c0 (t + s)) ((t + s) / 12) ((t + s) % 12)
    refine ⟨M ++ M2, ?_⟩
    show (gStep nxt (gAt nxt c0 (t + s)) ((t + s) / 12) ((t + s) % 12)).1 = _
    rw [hM2, hM, List.append_assoc]
theorem gAt_get {nxt : Nat → Nat → Option Nat} {c0 t s j c : Nat} (hts : t ≤ s) (h : (gAt nxt c0 t).1[j]? = some c) : (gAt nxt c0 s).1[j]? = some c := by
  obtain ⟨M, hM⟩ := gAt_pre nxt c0 t (s - t)
  rw [show t + (s - t) = s by omega] at hM
  rw [hM, List.getElem?_append_left (List.getElem?_eq_some_iff.mp h).1]
  exact h
theorem gAt_len {nxt : Nat → Nat → Option Nat} {c0 t s : Nat} (hts : t ≤ s) : (gAt nxt c0 t).1.length ≤ (gAt nxt c0 s).1.length := by
  obtain ⟨M, hM⟩ := gAt_pre nxt c0 t (s - t)
  rw [show t + (s - t) = s by omega] at hM
  rw [hM, List.length_append]
  omega
theorem gAt_keys (nxt : Nat → Nat → Option Nat) (c0 : Nat) : ∀ t, ∀ q ∈ (gAt nxt c0 t).2.1, q.1 < 12 + t
  | 0, q, hq => by simp [gAt] at hq
  | t + 1, q, hq => by
    have ih := gAt_keys nxt c0 t
    have key : ∀ x, q ∈ (gAt nxt c0 t).2.1 ++ [(12 * (t / 12 + 1) + t % 12, x)] → q.1 < 12 + (t + 1) := by
      intro x hx
      rcases List.mem_append.mp hx with h | h
      · have := ih q h
        omega
      · have : q = (12 * (t / 12 + 1) + t % 12, x) := by simpa using h
        subst this
        simp only
        omega
    simp only [gAt] at hq
    unfold gStep at hq
    split at hq
    · have := ih q hq; omega
    · split at hq
      · have := ih q hq; omega
      · split at hq
        · exact key _ hq
        · exact key _ hq
/-- the exploring has come to its end with N nodes -/
def gFin (nxt : Nat → Nat → Option Nat) (c0 N : Nat) : Prop := (gAt nxt c0 (12 * N)).1.length = N ∧ ∀ k, k < N → k < (gAt nxt c0 (12 * k)).1.length
theorem gFin_unique {nxt : Nat → Nat → Option Nat} {c0 N N' : Nat} (h : gFin nxt c0 N) (h' : gFin nxt c0 N') : N = N' := by
  rcases Nat.lt_trichotomy N N' with h1 | h1 | h1
  · have := h'.2 N h1
    rw [h.1] at this
    omega
  · exact h1
  · have := h.2 N' h1
    rw [h'.1] at this
    omega
theorem gFin_stable {nxt : Nat → Nat → Option Nat} {c0 N : Nat} (h : gFin nxt c0 N) : ∀ s, gAt nxt c0 (12 * N + s) = gAt nxt c0 (12 * N)
  | 0 => rfl
  | s + 1 => by
    have ih := gFin_stable h s
    show gStep nxt (gAt nxt c0 (12 * N + s)) ((12 * N + s) / 12) ((12 * N + s) % 12) = _
    rw [ih]
    exact gStep_off (List.getElem?_eq_none (by rw [h.1]; omega))
/-- more than 200 nodes come to light -/
def gMany (nxt : Nat → Nat → Option Nat) (c0 : Nat) : Prop := ∃ t, 200 < (gAt nxt c0 t).1.length
theorem gFin_notMany {nxt : Nat → Nat → Option Nat} {c0 N : Nat} (h : gFin nxt c0 N) (hN : N ≤ 200) : ¬ gMany nxt c0 := by
  rintro ⟨t, ht⟩
  have h1 : (gAt nxt c0 t).1.length ≤ (gAt nxt c0 (12 * N + t)).1.length := gAt_len (by omega)
  rw [gFin_stable h t, h.1] at h1
  omega
/-- what the automata do together -/
def nxtA (a : aT) (mem : Nat → Bool) (c e : Nat) : Option Nat := if (aMay a c e && aFree a mem c e) = true then some (cod (aStep a mem c e)) else none
theorem aVal_step {a : aT} {mem : Nat → Bool} {c e : Nat} (ha : aOk a) (hv : aVal a mem c) (he : e < 12) (hf : aFree a mem c e = true) : aVal a mem (cod (aStep a mem c e)) := by
  have h8 : ∀ j, j < 4 → aStep a mem c e j < 8 := fun j _ => aStep_lt ha mem hv he j
  refine ⟨cod_lt h8, fun i hi hm => ?_⟩
  have := ha.1
  rw [dig_cod h8 (by omega)]
  unfold aStep
  by_cases hh : aH a i e = true
  · rw [if_pos ⟨hi, hm, hh⟩]
    have h1 := all_iff.mp hf i hi
    simp only [hm, hh, Bool.not_true, Bool.false_or, decide_eq_true_eq] at h1
    have h2 := hv.2 i hi hm
    have h3 := (ha.2 i hi).1
    have h4 := ((ha.2 i hi).2.2 (dig c i) e (by omega) he).1
    omega
  · rw [if_neg (fun h => hh h.2.2)]
    exact hv.2 i hi hm
theorem aVal_first {a : aT} {mem : Nat → Bool} (ha : aOk a) (hI : ∀ i, i < aN a → mem i = true → 0 ≤ aI a i) : aVal a mem (cod (aFirst a mem)) := by
  refine ⟨cod_lt (fun j _ => aFirst_lt ha mem j), fun i hi hm => ?_⟩
  have := ha.1
  rw [dig_cod (fun j _ => aFirst_lt ha mem j) (by omega)]
  unfold aFirst
  rw [if_pos ⟨hi, hm⟩]
  have h1 := (ha.2 i hi).2.1
  have h2 := hI i hi hm
  omega
theorem gAt_val {a : aT} {mem : Nat → Bool} {c0 : Nat} (ha : aOk a) (h0 : aVal a mem c0) : ∀ t, ∀ c ∈ (gAt (nxtA a mem) c0 t).1, aVal a mem c
  | 0, c, hc => by
    have : c = c0 := by simpa [gAt] using hc
    rw [this]
    exact h0
  | t + 1, c, hc => by
    have ih := gAt_val ha h0 t
    simp only [gAt] at hc
    unfold gStep at hc
    split at hc
    · exact ih c hc
    · next c1 hc1 =>
      split at hc
      · exact ih c hc
      · next d hd =>
        split at hc
        · exact ih c hc
        · rcases List.mem_append.mp hc with h | h
          · exact ih c h
          · have hcd : c = d := by simpa using h
            subst hcd
            unfold nxtA at hd
            split at hd
            · next hfree =>
              cases hd
              simp only [Bool.and_eq_true] at hfree
              exact aVal_step ha (ih c1 (List.mem_of_getElem? hc1)) (Nat.mod_lt _ (by decide)) hfree.2
            · cases hd
theorem aVal_mono {a : aT} {mem mem' : Nat → Bool} {c : Nat} (h : aVal a mem c) (hm : ∀ i, i < aN a → mem' i = true → mem i = true) : aVal a mem' c := ⟨h.1, fun i hi hi' => h.2 i hi (hm i hi hi')⟩
/-- the first k nodes have been looked at -/
def gMk (a : aT) (mem : Nat → Bool) (L : List Nat) (k : Nat) (μ : zM) : Prop := ∀ (j c : Nat), j < k → L[j]? = some c → μ 18 (j + 1) = zB (aGoal a mem c) ∧ μ 19 (j + 1) = zB (!aBad a mem c) ∧ zmask 12 (μ 27 (j + 1)) (aMay a c)
theorem gMk_congr {a : aT} {mem : Nat → Bool} {L : List Nat} {k : Nat} {μ μ' : zM} (h : gMk a mem L k μ) (h18 : μ' 18 = μ 18) (h19 : μ' 19 = μ 19) (h27 : μ' 27 = μ 27) : gMk a mem L k μ' := by
  intro j c hj hc
  rw [h18, h19, h27]
  exact h j c hj hc
theorem gRep_congr {g : gT} {μ μ' : zM} (h : gRep g μ) (hq : ∀ q, q = 15 ∨ q = 16 ∨ q = 17 ∨ q = 21 ∨ q = 22 ∨ q = 23 ∨ q = 24 → μ' q = μ q) : gRep g μ' := by
  obtain ⟨⟨b1, b2, b3, b4⟩, ⟨e1, e2, e3⟩, f1, f2⟩ := h
  have m15 := hq 15 (by omega)
  have m16 := hq 16 (by omega)
  have m17 := hq 17 (by omega)
  have m21 := hq 21 (by omega)
  have m22 := hq 22 (by omega)
  have m23 := hq 23 (by omega)
  have m24 := hq 24 (by omega)
  refine ⟨⟨by rw [m15]; exact b1, b2, by rw [m16, m17]; exact b3, by rw [m16]; exact b4⟩, ⟨by rw [m22]; exact e1, by rw [m22]; exact e2, fun t h1 h2 => by rw [m23]; exact gCh_congr _ _ (fun y _ => by rw [m24]) (e3 t h1 h2)⟩, f1, by rw [m21]; exact f2⟩
end
section
theorem gMk_step {a : aT} {mem : Nat → Bool} {L : List Nat} {k c : Nat} {μ : zM} {r : Int} (h : gMk a mem L k μ) (hck : L[k]? = some c) (hr : zmask 12 r (aMay a c)) :
    gMk a mem L (k + 1) (zup (zup (zup μ 18 (k + 1) (zB (aGoal a mem c))) 19 (k + 1) (zB (!aBad a mem c))) 27 (k + 1) r) := by
  intro j d hj hd
  by_cases hjk : j = k
  · subst hjk
    rw [hck] at hd
    cases hd
    refine ⟨by simp [zup_at], by simp [zup_at], by simp [zup_at]; exact hr⟩
  · obtain ⟨h1, h2, h3⟩ := h j d (by omega) hd
    have : ¬ (j + 1 = k + 1) := by omega
    refine ⟨by simp [zup_at, hjk]; exact h1, by simp [zup_at, hjk]; exact h2, by simp [zup_at, hjk]; exact h3⟩
theorem gMk_grow {a : aT} {mem : Nat → Bool} {nxt : Nat → Nat → Option Nat} {c0 t s k : Nat} {μ : zM} (h : gMk a mem (gAt nxt c0 t).1 k μ) (hts : t ≤ s) (hk : k ≤ (gAt nxt c0 t).1.length) : gMk a mem (gAt nxt c0 s).1 k μ := by
  intro j c hj hc
  have h1 : (gAt nxt c0 t).1[j]? = some ((gAt nxt c0 t).1[j]'(by omega)) := List.getElem?_eq_getElem (by omega)
  have h2 := gAt_get hts h1
  rw [hc] at h2
  cases h2
  exact h j _ hj h1
theorem gAt_next (nxt : Nat → Nat → Option Nat) (c0 : Nat) {k e : Nat} (he : e < 12) : gAt nxt c0 (12 * k + (e + 1)) = gStep nxt (gAt nxt c0 (12 * k + e)) k e := by
  show gStep nxt (gAt nxt c0 (12 * k + e)) ((12 * k + e) / 12) ((12 * k + e) % 12) = _
  rw [show (12 * k + e) / 12 = k by omega, show (12 * k + e) % 12 = e by omega]
/-- what a link does to the graph that is being explored -/
theorem gLinked {nxt : Nat → Nat → Option Nat} {c0 k e c d : Nat} {μ μ' : zM} {r : Int} (he : e < 12) (hG : gRep (gAt nxt c0 (12 * k + e)) μ) (hk : (gAt nxt c0 (12 * k + e)).1[k]? = some c) (hn : nxt c e = some d)
    (h : (∃ j : Nat, (gAt nxt c0 (12 * k + e)).1[j]? = some d ∧ r = ((j + 1 : Nat) : Int) ∧ gRep ((gAt nxt c0 (12 * k + e)).1, (gAt nxt c0 (12 * k + e)).2.1 ++ [(12 * (k + 1) + e, j + 1)], (gAt nxt c0 (12 * k + e)).2.2) μ') ∨
      (d ∉ (gAt nxt c0 (12 * k + e)).1 ∧ (gAt nxt c0 (12 * k + e)).1.length < 200 ∧ r = (((gAt nxt c0 (12 * k + e)).1.length + 1 : Nat) : Int) ∧ gRep ((gAt nxt c0 (12 * k + e)).1 ++ [d], (gAt nxt c0 (12 * k + e)).2.1 ++ [(12 * (k + 1) + e, (gAt nxt c0 (12 * k + e)).1.length + 1)], (gAt nxt c0 (12 * k + e)).2.2 ++ [12 * (k + 1) + e]) μ') ∨
      (d ∉ (gAt nxt c0 (12 * k + e)).1 ∧ (gAt nxt c0 (12 * k + e)).1.length = 200 ∧ r = 0 ∧ μ' = μ)) :
    (¬ r = 0 ∧ gRep (gAt nxt c0 (12 * k + (e + 1))) μ') ∨ (r = 0 ∧ gMany nxt c0 ∧ μ' = μ) := by
  rw [gAt_next nxt c0 he]
  have hnd := fun (i j : Nat) (hi : (gAt nxt c0 (12 * k + e)).1[i]? = some d) (hj : (gAt nxt c0 (12 * k + e)).1[j]? = some d) => gBase_nodup hG.1 hi hj
  have hnext := gAt_next nxt c0 (k := k) he
  generalize hg : gAt nxt c0 (12 * k + e) = g at *
  obtain ⟨L, ES, FB⟩ := g
  rcases h with ⟨j, h1, h2, h3⟩ | ⟨h1, h2, h3, h4⟩ | ⟨h1, h2, h3, h4⟩
  · refine Or.inl ⟨by omega, ?_⟩
    rw [gStep_old hk hn h1 (fun i hi => hnd i j hi h1)]
    exact h3
  · refine Or.inl ⟨by omega, ?_⟩
    rw [gStep_new hk hn h1]
    exact h4
  · refine Or.inr ⟨h3, ⟨12 * k + (e + 1), ?_⟩, h4⟩
    rw [hnext, gStep_new hk hn h1]
    simp only [List.length_append, List.length_cons, List.length_nil] at h2 ⊢
    omega
set_option maxRecDepth 100000 in
set_option maxHeartbeats 4000000 in
theorem m_Y_exploreFrom (l : Launch) (μ : zM) {a : aT} (ha : aOk a) (hc : cRep a μ) {m : Int} {mem : Nat → Bool} (hm : zmask 4 m mem) (hpm : ∀ i, i < aN a → aP a i = true → mem i = true) {c0 k : Nat} (h0 : aVal a mem c0) (hG : gRep (gAt (nxtA a mem) c0 (12 * k)) μ) (hk : k < (gAt (nxtA a mem) c0 (12 * k)).1.length) (hMk : gMk a mem (gAt (nxtA a mem) c0 (12 * k)).1 k μ) :
    zC l y_Y_exploreFrom b_Y_exploreFrom 6 (some .boolean) [] 2 0 48 false [zp 26, zi ((k + 1 : Nat) : Int), zi m] μ (zRi (fun r μ' => ((r = 1 ∧ gRep (gAt (nxtA a mem) c0 (12 * (k + 1))) μ' ∧ gMk a mem (gAt (nxtA a mem) c0 (12 * (k + 1))).1 (k + 1) μ') ∨ (r = 0 ∧ gMany (nxtA a mem) c0 ∧ ∃ L', gBase L' μ')) ∧ ∀ q, (q < 15 ∨ 25 ≤ q) → q ≠ 27 → μ' q = μ q)) := by
  refine zC.of (own := n_Y) (L := [some (zp 26), some (zi ((k + 1 : Nat) : Int)), some (zi m), none, none, none]) (by decide) rfl (by simp [zcat]) (Nat.le_of_ble_eq_true rfl) rfl (fun Γ => ?_)
  obtain ⟨c, hck⟩ : ∃ c, (gAt (nxtA a mem) c0 (12 * k)).1[k]? = some c := ⟨_, List.getElem?_eq_getElem hk⟩
  have hv := gAt_val ha h0 _ c (List.mem_of_getElem? hck)
  have hvp := aVal_mono hv hpm
  have hb := hG.1.2.2.1 k c hck
  have hk200 := hG.1.2.1
  have hcM1 : cRep a (zup μ 18 (k + 1) (zB (aGoal a mem c))) := cRep_congr hc (fun q hq => by rw [zup_ne _ _ _ (by omega)]) ha
  have hcM2 : cRep a (zup (zup μ 18 (k + 1) (zB (aGoal a mem c))) 19 (k + 1) (zB (!aBad a mem c))) := cRep_congr hc (fun q hq => by rw [zup_ne _ _ _ (by omega), zup_ne _ _ _ (by omega)]) ha
  refine zU_aload_n d_Y_exploreFrom_0 rfl ?_
  refine zU_getR 15 d_Y_exploreFrom_1 f_Y_25 (by decide) rfl rfl rfl ?_
  refine zU_getR 17 d_Y_exploreFrom_4 f_Y_75 (by decide) rfl rfl rfl ?_
  refine zU_iload_n d_Y_exploreFrom_7 rfl ?_
  refine zU_iald (v := (c : Int)) d_Y_exploreFrom_8 (by decide) rfl (by decide) (by omega) (hb.2.1) ?_
  refine zU_istore_n d_Y_exploreFrom_9 (by decide) ?_
  refine zU.eqL (L' := [some (zp 26), some (zi ((k + 1 : Nat) : Int)), some (zi m), some (zi ((c : Int))), none, none]) rfl ?_
  refine zU_aload_n d_Y_exploreFrom_10 rfl ?_
  refine zU_getR 15 d_Y_exploreFrom_11 f_Y_25 (by decide) rfl rfl rfl ?_
  refine zU_getR 18 d_Y_exploreFrom_14 f_Y_78 (by decide) rfl rfl rfl ?_
  refine zU_iload_n d_Y_exploreFrom_17 rfl ?_
  refine zU_aload_n d_Y_exploreFrom_18 rfl ?_
  refine zU_getR 1 d_Y_exploreFrom_19 f_Y_21 (by decide) rfl rfl rfl ?_
  refine zU_iload_n d_Y_exploreFrom_22 rfl ?_
  refine zU_iload_n d_Y_exploreFrom_23 rfl ?_
  refine zU_callVi (p0 := 1) [zi ((c : Int)), zi m] d_Y_exploreFrom_24 k_Y_82 rfl (by decide) rfl rfl (by decide) (Nat.le_of_ble_eq_true rfl) (fun l => m_A_isMarked l μ ha hc hm hv) (fun r24 μ24 h24 => ?_)
  obtain ⟨hμ24, rfl⟩ := h24
  replace hμ24 := hμ24.symm
  subst hμ24
  refine zU_zast d_Y_exploreFrom_27 (by decide) rfl (by decide) (by omega) (zB_or _) ?_
  refine zU.eqM (μ' := (zup μ 18 (k + 1) (zB (aGoal a mem c)))) rfl ?_
  refine zU_aload_n d_Y_exploreFrom_28 rfl ?_
  refine zU_getR 15 d_Y_exploreFrom_29 f_Y_25 (by decide) rfl rfl rfl ?_
  refine zU_getR 19 d_Y_exploreFrom_32 f_Y_85 (by decide) rfl rfl rfl ?_
  refine zU_iload_n d_Y_exploreFrom_35 rfl ?_
  refine zU_aload_n d_Y_exploreFrom_36 rfl ?_
  refine zU_getR 1 d_Y_exploreFrom_37 f_Y_21 (by decide) rfl rfl rfl ?_
  refine zU_iload_n d_Y_exploreFrom_40 rfl ?_
  refine zU_iload_n d_Y_exploreFrom_41 rfl ?_
  refine zU_callVi (p0 := 1) [zi ((c : Int)), zi m] d_Y_exploreFrom_42 k_Y_88 rfl (by decide) rfl rfl (by decide) (Nat.le_of_ble_eq_true rfl) (fun l => m_A_isForbidden l (zup μ 18 (k + 1) (zB (aGoal a mem c))) ha hcM1 hm hv) (fun r42 μ42 h42 => ?_)
  obtain ⟨hμ42, rfl⟩ := h42
  replace hμ42 := hμ42.symm
  subst hμ42
  have hJ54 : zU Γ b_Y_exploreFrom n_Y 6 (some .boolean) [] (zRm 2 0 48) 0 0 (zFin Γ 0 false (zRi (fun r μ' => ((r = 1 ∧ gRep (gAt (nxtA a mem) c0 (12 * (k + 1))) μ' ∧ gMk a mem (gAt (nxtA a mem) c0 (12 * (k + 1))).1 (k + 1) μ') ∨ (r = 0 ∧ gMany (nxtA a mem) c0 ∧ ∃ L', gBase L' μ')) ∧ ∀ q, (q < 15 ∨ 25 ≤ q) → q ≠ 27 → μ' q = μ q))) false 0 (zup (zup μ 18 (k + 1) (zB (aGoal a mem c))) 19 (k + 1) (zB (!aBad a mem c))) 54 [some (zp 26), some (zi ((k + 1 : Nat) : Int)), some (zi m), some (zi (c : Int)), none, none] [] := by
    refine zU_aload_n d_Y_exploreFrom_54 rfl ?_
    refine zU_getR 27 d_Y_exploreFrom_55 f_Y_9 (by decide) rfl rfl rfl ?_
    refine zU_iload_n d_Y_exploreFrom_58 rfl ?_
    refine zU_aload_n d_Y_exploreFrom_59 rfl ?_
    refine zU_getR 1 d_Y_exploreFrom_60 f_Y_21 (by decide) rfl rfl rfl ?_
    refine zU_iload_n d_Y_exploreFrom_63 rfl ?_
    refine zU_callVi (p0 := 1) [zi (c : Int)] d_Y_exploreFrom_64 k_Y_91 rfl (by decide) rfl rfl (by decide) (Nat.le_of_ble_eq_true rfl) (fun l => m_A_eventsOfPlants l (zup (zup μ 18 (k + 1) (zB (aGoal a mem c))) 19 (k + 1) (zB (!aBad a mem c))) ha hcM2 hvp) (fun r64 μ64 h64 => ?_)
    obtain ⟨hμ64, hr64, hb64⟩ := h64
    subst hμ64
    refine zU_iast d_Y_exploreFrom_67 (by decide) rfl (by decide) (by omega) ?_
    obtain ⟨μ3, hμ3⟩ : ∃ μ3, μ3 = (zup (zup (zup μ 18 (k + 1) (zB (aGoal a mem c))) 19 (k + 1) (zB (!aBad a mem c))) 27 (k + 1) r64) := ⟨_, rfl⟩
    refine zU.eqM (μ' := μ3) hμ3.symm ?_
    have hq3 : ∀ q, q ≠ 18 → q ≠ 19 → q ≠ 27 → μ3 q = μ q := fun q q1 q2 q3 => by rw [hμ3, zup_ne _ _ _ q3, zup_ne _ _ _ q2, zup_ne _ _ _ q1]
    have hc3 : cRep a μ3 := cRep_congr hc (fun q hq => hq3 q (by omega) (by omega) (by omega)) ha
    have hG3 : gRep (gAt (nxtA a mem) c0 (12 * k)) μ3 := gRep_congr hG (fun q hq => hq3 q (by omega) (by omega) (by omega))
    have hM3 : gMk a mem (gAt (nxtA a mem) c0 (12 * k)).1 (k + 1) μ3 := by rw [hμ3]; exact gMk_step hMk hck ⟨hr64, hb64⟩
    refine zU_aload_n d_Y_exploreFrom_68 rfl ?_
    refine zU_getR 27 d_Y_exploreFrom_69 f_Y_9 (by decide) rfl rfl rfl ?_
    refine zU_iload_n d_Y_exploreFrom_72 rfl ?_
    refine zU_iald (v := r64) d_Y_exploreFrom_73 (by decide) rfl (by decide) (by omega) (by rw [hμ3]; simp [zup_at]) ?_
    refine zU_aload_n d_Y_exploreFrom_74 rfl ?_
    refine zU_getR 1 d_Y_exploreFrom_75 f_Y_21 (by decide) rfl rfl rfl ?_
    refine zU_iload_n d_Y_exploreFrom_78 rfl ?_
    refine zU_iload_n d_Y_exploreFrom_79 rfl ?_
    refine zU_callVi (p0 := 1) [zi (c : Int), zi m] d_Y_exploreFrom_80 k_Y_93 rfl (by decide) rfl rfl (by decide) (Nat.le_of_ble_eq_true rfl) (fun l => m_A_eventsNotStopped l μ3 ha hc3 hm hv) (fun r80 μ80 h80 => ?_)
    obtain ⟨hμ80, hr80, hb80⟩ := h80
    replace hμ80 := hμ80.symm
    subst hμ80
    have hbx : ∀ e, e < 12 → zbt (zand r64 r80) e = (aMay a c e && aFree a mem c e) := fun e he => by rw [zbt_and, hb64 e he, hb80 e he]
    refine zU_iand d_Y_exploreFrom_83 ?_
    refine zU_istore d_Y_exploreFrom_84 (by decide) ?_
    refine zU.eqL (L' := [some (zp 26), some (zi ((k + 1 : Nat) : Int)), some (zi m), some (zi (c : Int)), some (zi (zand (r64) (r80))), none]) rfl ?_
    refine zU_iconst d_Y_exploreFrom_86 ?_
    refine zU_istore d_Y_exploreFrom_87 (by decide) ?_
    refine zU.eqL (L' := [some (zp 26), some (zi ((k + 1 : Nat) : Int)), some (zi m), some (zi (c : Int)), some (zi (zand (r64) (r80))), some (zi 0)]) rfl ?_
    have hJ89 : ∀ (d : Nat) (e : Nat) (μ4 : zM), e + d = 12 → gRep (gAt (nxtA a mem) c0 (12 * k + e)) μ4 → (∀ q, q ≠ 15 → q ≠ 16 → q ≠ 17 → q ≠ 21 → q ≠ 22 → q ≠ 23 → q ≠ 24 → μ4 q = μ3 q) → zU Γ b_Y_exploreFrom n_Y 6 (some .boolean) [] (zRm 2 0 48) 0 0 (zFin Γ 0 false (zRi (fun r μ' => ((r = 1 ∧ gRep (gAt (nxtA a mem) c0 (12 * (k + 1))) μ' ∧ gMk a mem (gAt (nxtA a mem) c0 (12 * (k + 1))).1 (k + 1) μ') ∨ (r = 0 ∧ gMany (nxtA a mem) c0 ∧ ∃ L', gBase L' μ')) ∧ ∀ q, (q < 15 ∨ 25 ≤ q) → q ≠ 27 → μ' q = μ q))) false 0 μ4 89 [some (zp 26), some (zi ((k + 1 : Nat) : Int)), some (zi m), some (zi (c : Int)), some (zi (zand r64 r80)), some (zi (e : Int))] [] := by
      intro d
      induction d using Nat.strongRecOn with
      | _ d ih89 =>
        intro e μ4 hd hG4 hq4
        refine zU_iload d_Y_exploreFrom_89 rfl ?_
        refine zU_bipush d_Y_exploreFrom_91 (by decide) ?_
        refine zU_icmp_ge 138 d_Y_exploreFrom_93 (by decide) (by omega) (by omega) (fun h93 => ?_) (fun h93 => ?_)
        · refine zU_iconst d_Y_exploreFrom_138 ?_
          exact zU_ireturn d_Y_exploreFrom_139 (Or.inr ⟨rfl, by omega⟩) (by decide) (by decide) (⟨_, rfl, Or.inl ⟨rfl, by have h9 : 12 * (k + 1) = 12 * k + e := (by omega); rw [h9]; exact hG4, gMk_grow (gMk_congr hM3 (hq4 18 (by decide) (by decide) (by decide) (by decide) (by decide) (by decide) (by decide)) (hq4 19 (by decide) (by decide) (by decide) (by decide) (by decide) (by decide) (by decide)) (hq4 27 (by decide) (by decide) (by decide) (by decide) (by decide) (by decide) (by decide))) (by omega) hk⟩, fun q hq hq27 => by rw [hq4 q (by omega) (by omega) (by omega) (by omega) (by omega) (by omega) (by omega), hq3 q (by omega) (by omega) hq27]⟩)
        · have he : e < 12 := by omega
          have hck4 := gAt_get (show 12 * k ≤ 12 * k + e by omega) hck
          have hkl4 := (List.getElem?_eq_some_iff.mp hck4).1
          have hc4 : cRep a μ4 := cRep_congr hc3 (fun q hq => hq4 q (by omega) (by omega) (by omega) (by omega) (by omega) (by omega) (by omega)) ha
          refine zU_iload d_Y_exploreFrom_96 rfl ?_
          refine zU_iload d_Y_exploreFrom_98 rfl ?_
          refine zU_callSi [zi (zand r64 r80), zi (e : Int)] d_Y_exploreFrom_100 k_Y_97 rfl (by decide) (Nat.le_of_ble_eq_true rfl) (fun l => m_C_hasBit l μ4 _ e (zand_r _ _) (by omega)) (fun r100 μ100 h100 => ?_)
          obtain ⟨hμ100, rfl⟩ := h100
          replace hμ100 := hμ100.symm
          subst hμ100
          refine zU_if_eq 132 d_Y_exploreFrom_103 (by decide) (zBr _) (fun h103 => ?_) (fun h103 => ?_)
          · refine zU_iinc d_Y_exploreFrom_132 rfl ?_
            refine zU.eqL (L' := [some (zp 26), some (zi ((k + 1 : Nat) : Int)), some (zi m), some (zi (c : Int)), some (zi (zand r64 r80)), some (zi (((e + 1 : Nat) : Int)))]) (by first | rfl | (show _ = _; simp only [List.set]; congr 3; omega)) ?_
            refine zU_goto 89 d_Y_exploreFrom_135 (by decide) ?_
            exact ih89 (d - 1) (by omega) (e + 1) μ4 (by omega) (by rw [gAt_next (nxtA a mem) c0 he, gStep_none hck4 (by unfold nxtA; rw [← hbx e he, zB_zero.mp h103]; rfl)]; exact hG4) hq4
          · have hnx := zB_nz.mp h103
            rw [hbx e he, Bool.and_eq_true] at hnx
            have hnxt : nxtA a mem c e = some (cod (aStep a mem c e)) := by unfold nxtA; rw [hnx.1, hnx.2]; rfl
            have hd4 := (aVal_step ha hv he hnx.2).1
            refine zU_aload_n d_Y_exploreFrom_106 rfl ?_
            refine zU_getR 15 d_Y_exploreFrom_107 f_Y_25 (by decide) rfl rfl rfl ?_
            refine zU_iload_n d_Y_exploreFrom_110 rfl ?_
            refine zU_iload d_Y_exploreFrom_111 rfl ?_
            refine zU_aload_n d_Y_exploreFrom_113 rfl ?_
            refine zU_getR 1 d_Y_exploreFrom_114 f_Y_21 (by decide) rfl rfl rfl ?_
            refine zU_iload_n d_Y_exploreFrom_117 rfl ?_
            refine zU_iload d_Y_exploreFrom_118 rfl ?_
            refine zU_iload_n d_Y_exploreFrom_120 rfl ?_
            refine zU_callVi (p0 := 1) [zi (c : Int), zi (e : Int), zi m] d_Y_exploreFrom_121 k_Y_100 rfl (by decide) rfl rfl (by decide) (Nat.le_of_ble_eq_true rfl) (fun l => m_A_step l μ4 ha hc4 hm hv he (fun i hi hmi hhi => by
            have h9 := all_iff.mp hnx.2 i hi
            simp only [hmi, hhi, Bool.not_true, Bool.false_or, decide_eq_true_eq] at h9
            exact h9)) (fun r121 μ121 h121 => ?_)
            obtain ⟨hμ121, hr121⟩ := h121
            subst hr121
            replace hμ121 := hμ121.symm
            subst hμ121
            refine zU_callVi (p0 := 15) [zi ((k + 1 : Nat) : Int), zi (e : Int), zi (((cod (aStep a mem c e) : Nat) : Int))] d_Y_exploreFrom_124 k_Y_104 rfl (by decide) rfl rfl (by decide) (Nat.le_of_ble_eq_true rfl) (fun l => m_G_link l μ4 (L := (gAt (nxtA a mem) c0 (12 * k + e)).1) (ES := (gAt (nxtA a mem) c0 (12 * k + e)).2.1) (FB := (gAt (nxtA a mem) c0 (12 * k + e)).2.2) (f := k + 1) (e := e) (c := cod (aStep a mem c e)) hG4 ⟨by omega, by omega⟩ he hd4 (fun q hq => by have := gAt_keys (nxtA a mem) c0 (12 * k + e) q hq; omega)) (fun r124 μ124 h124 => ?_)
            have hl124 := gLinked he hG4 hck4 hnxt h124.1
            have hr124 : -2147483648 ≤ r124 ∧ r124 ≤ 2147483647 := by
              have h9 := hG4.1.2.1
              rcases h124.1 with ⟨j, hj, hr, _⟩ | ⟨_, hl, hr, _⟩ | ⟨_, _, hr, _⟩
              · have := (List.getElem?_eq_some_iff.mp hj).1
                omega
              · omega
              · omega
            refine zU_if_ne 132 d_Y_exploreFrom_127 (by decide) (hr124) (fun h127 => ?_) (fun h127 => ?_)
            · refine zU_iinc d_Y_exploreFrom_132 rfl ?_
              refine zU.eqL (L' := [some (zp 26), some (zi ((k + 1 : Nat) : Int)), some (zi m), some (zi (c : Int)), some (zi (zand r64 r80)), some (zi (((e + 1 : Nat) : Int)))]) (by first | rfl | (show _ = _; simp only [List.set]; congr 3; omega)) ?_
              refine zU_goto 89 d_Y_exploreFrom_135 (by decide) ?_
              exact ih89 (d - 1) (by omega) (e + 1) _ (by omega) (by rcases hl124 with h | h; exact h.2; exact absurd h.1 h127) (fun q q1 q2 q3 q4 q5 q6 q7 => by rw [h124.2 q q1 q2 q3 q4 q5 q6 q7]; exact hq4 q q1 q2 q3 q4 q5 q6 q7)
            · refine zU_iconst d_Y_exploreFrom_130 ?_
              exact zU_ireturn d_Y_exploreFrom_131 (Or.inr ⟨rfl, by omega⟩) (by decide) (by decide) (⟨_, rfl, Or.inr ⟨rfl, by rcases hl124 with h | h; exact absurd h127 h.1; exact h.2.1, (gAt (nxtA a mem) c0 (12 * k + e)).1, by rcases hl124 with h | h; exact absurd h127 h.1; rw [h.2.2]; exact hG4.1⟩, fun q hq hq27 => by rw [h124.2 q (by omega) (by omega) (by omega) (by omega) (by omega) (by omega) (by omega), hq4 q (by omega) (by omega) (by omega) (by omega) (by omega) (by omega) (by omega), hq3 q (by omega) (by omega) hq27]⟩)
    exact hJ89 12 0 μ3 (by omega) hG3 (fun _ _ _ _ _ _ _ _ => rfl)
  refine zU_if_ne 52 d_Y_exploreFrom_45 (by decide) (zBr _) (fun h45 => ?_) (fun h45 => ?_)
  · refine zU_iconst d_Y_exploreFrom_52 ?_
    refine zU_zast d_Y_exploreFrom_53 (by decide) rfl (by decide) (by omega) (by omega) ?_
    refine zU.eqM (μ' := (zup (zup μ 18 (k + 1) (zB (aGoal a mem c))) 19 (k + 1) (zB (!aBad a mem c)))) (by rw [zB_nz.mp h45]; rfl) ?_
    exact hJ54 
  · refine zU_iconst d_Y_exploreFrom_48 ?_
    refine zU_goto 53 d_Y_exploreFrom_49 (by decide) ?_
    refine zU_zast d_Y_exploreFrom_53 (by decide) rfl (by decide) (by omega) (by omega) ?_
    refine zU.eqM (μ' := (zup (zup μ 18 (k + 1) (zB (aGoal a mem c))) 19 (k + 1) (zB (!aBad a mem c)))) (by rw [zB_zero.mp h45]; rfl) ?_
    exact hJ54 
set_option maxRecDepth 100000 in
set_option maxHeartbeats 4000000 in
theorem m_Y_explore (l : Launch) (μ : zM) {a : aT} (ha : aOk a) (hc : cRep a μ) {m : Int} {mem : Nat → Bool} (hm : zmask 4 m mem) (hpm : ∀ i, i < aN a → aP a i = true → mem i = true) {L : List Nat} (hB : gBase L μ) (hI : ∀ i, i < aN a → mem i = true → 0 ≤ aI a i) :
    zC l y_Y_explore b_Y_explore 3 (some .boolean) [] 3 0 73 false [zp 26, zi m] μ (zRi (fun r μ' => ((r = 1 ∧ ∃ N, gFin (nxtA a mem) (cod (aFirst a mem)) N ∧ N ≤ 200 ∧ gRep (gAt (nxtA a mem) (cod (aFirst a mem)) (12 * N)) μ' ∧ gMk a mem (gAt (nxtA a mem) (cod (aFirst a mem)) (12 * N)).1 N μ') ∨ (r = 0 ∧ gMany (nxtA a mem) (cod (aFirst a mem)) ∧ ∃ L', gBase L' μ')) ∧ ∀ q, (q < 15 ∨ 25 ≤ q) → q ≠ 27 → μ' q = μ q)) := by
  refine zC.of (own := n_Y) (L := [some (zp 26), some (zi m), none]) (by decide) rfl (by simp [zcat]) (Nat.le_of_ble_eq_true rfl) rfl (fun Γ => ?_)
  have h0 := aVal_first ha hI
  refine zU_aload_n d_Y_explore_0 rfl ?_
  refine zU_getR 15 d_Y_explore_1 f_Y_25 (by decide) rfl rfl rfl ?_
  refine zU_aload_n d_Y_explore_4 rfl ?_
  refine zU_getR 1 d_Y_explore_5 f_Y_21 (by decide) rfl rfl rfl ?_
  refine zU_iload_n d_Y_explore_8 rfl ?_
  refine zU_callVi (p0 := 1) [zi m] d_Y_explore_9 k_Y_61 rfl (by decide) rfl rfl (by decide) (Nat.le_of_ble_eq_true rfl) (fun l => m_A_firstCode l μ ha hc hm hI) (fun r9 μ9 h9 => ?_)
  obtain ⟨hμ9, rfl⟩ := h9
  replace hμ9 := hμ9.symm
  subst hμ9
  refine zU_callVv (p0 := 15) [zi (((cod (aFirst a mem) : Nat) : Int))] d_Y_explore_12 k_Y_67 rfl (by decide) rfl rfl (by decide) (Nat.le_of_ble_eq_true rfl) (fun l => m_G_begin l μ (c := cod (aFirst a mem)) hB h0.1) (fun μ12 h12 => ?_)
  obtain ⟨hG12, hq12⟩ := h12
  refine zU_iconst d_Y_explore_15 ?_
  refine zU_istore_n d_Y_explore_16 (by decide) ?_
  refine zU.eqL (L' := [some (zp 26), some (zi m), some (zi 1)]) rfl ?_
  have hJ17 : ∀ (d : Nat) (k : Nat) (μ1 : zM), k + d = 201 → gRep (gAt (nxtA a mem) (cod (aFirst a mem)) (12 * k)) μ1 → gMk a mem (gAt (nxtA a mem) (cod (aFirst a mem)) (12 * k)).1 k μ1 → k ≤ (gAt (nxtA a mem) (cod (aFirst a mem)) (12 * k)).1.length → (∀ j, j < k → j < (gAt (nxtA a mem) (cod (aFirst a mem)) (12 * j)).1.length) → (∀ q, (q < 15 ∨ 25 ≤ q) → q ≠ 27 → μ1 q = μ q) → zU Γ b_Y_explore n_Y 3 (some .boolean) [] (zRm 3 0 73) 0 0 (zFin Γ 0 false (zRi (fun r μ' => ((r = 1 ∧ ∃ N, gFin (nxtA a mem) (cod (aFirst a mem)) N ∧ N ≤ 200 ∧ gRep (gAt (nxtA a mem) (cod (aFirst a mem)) (12 * N)) μ' ∧ gMk a mem (gAt (nxtA a mem) (cod (aFirst a mem)) (12 * N)).1 N μ') ∨ (r = 0 ∧ gMany (nxtA a mem) (cod (aFirst a mem)) ∧ ∃ L', gBase L' μ')) ∧ ∀ q, (q < 15 ∨ 25 ≤ q) → q ≠ 27 → μ' q = μ q))) false 0 μ1 17 [some (zp 26), some (zi m), some (zi ((k + 1 : Nat) : Int))] [] := by
    intro d
    induction d using Nat.strongRecOn with
    | _ d ih17 =>
      intro k μ1 hd hG hMk hkl hks hq
      have hl := hG.1.2.1
      have hc1 : cRep a μ1 := cRep_congr hc (fun q h => hq q (by omega) (by omega)) ha
      refine zU_iload_n d_Y_explore_17 rfl ?_
      refine zU_aload_n d_Y_explore_18 rfl ?_
      refine zU_getR 15 d_Y_explore_19 f_Y_25 (by decide) rfl rfl rfl ?_
      refine zU_getI (v := ((gAt (nxtA a mem) (cod (aFirst a mem)) (12 * k)).1.length : Int)) d_Y_explore_22 f_Y_36 (by decide) rfl rfl (hG.1.1) ?_
      refine zU_icmp_gt 52 d_Y_explore_25 (by decide) (by omega) (by omega) (fun h25 => ?_) (fun h25 => ?_)
      · refine zU_iconst d_Y_explore_52 ?_
        exact zU_ireturn d_Y_explore_53 (Or.inr ⟨rfl, by omega⟩) (by decide) (by decide) (⟨_, rfl, Or.inl ⟨rfl, k, ⟨by omega, hks⟩, by omega, hG, hMk⟩, hq⟩)
      · refine zU_iload_n d_Y_explore_28 rfl ?_
        refine zU_sipush d_Y_explore_29 (by decide) ?_
        refine zU_icmp_gt 52 d_Y_explore_32 (by decide) (by omega) (by omega) (fun h32 => ?_) (fun h32 => ?_)
        · exfalso; omega
        · refine zU_aload_n d_Y_explore_35 rfl ?_
          refine zU_iload_n d_Y_explore_36 rfl ?_
          refine zU_iload_n d_Y_explore_37 rfl ?_
          refine zU_callVi (p0 := 26) [zi ((k + 1 : Nat) : Int), zi m] d_Y_explore_38 k_Y_71 rfl (by decide) rfl rfl (by decide) (Nat.le_of_ble_eq_true rfl) (fun l => m_Y_exploreFrom l μ1 ha hc1 hm hpm h0 hG (by omega) hMk) (fun r38 μ38 h38 => ?_)
          have hr38 : -2147483648 ≤ r38 ∧ r38 ≤ 2147483647 := by rcases h38.1 with h | h <;> omega
          refine zU_if_ne 46 d_Y_explore_41 (by decide) (hr38) (fun h41 => ?_) (fun h41 => ?_)
          · have hlen38 : (gAt (nxtA a mem) (cod (aFirst a mem)) (12 * k)).1.length ≤ (gAt (nxtA a mem) (cod (aFirst a mem)) (12 * (k + 1))).1.length := gAt_len (by omega)
            have hx38 : gRep (gAt (nxtA a mem) (cod (aFirst a mem)) (12 * (k + 1))) μ38 ∧ gMk a mem (gAt (nxtA a mem) (cod (aFirst a mem)) (12 * (k + 1))).1 (k + 1) μ38 := by rcases h38.1 with h | h; exact h.2; exact absurd h.1 h41
            refine zU_iinc d_Y_explore_46 rfl ?_
            refine zU.eqL (L' := [some (zp 26), some (zi m), some (zi (((k + 1 + 1 : Nat) : Int)))]) (by first | rfl | (show _ = _; simp only [List.set]; congr 3; omega)) ?_
            refine zU_goto 17 d_Y_explore_49 (by decide) ?_
            exact ih17 (d - 1) (by omega) (k + 1) _ (by omega) hx38.1 hx38.2 (by omega) (fun j hj => by by_cases h : j = k; { rw [h]; omega }; { exact hks j (by omega) }) (fun q h h27 => by rw [h38.2 q h h27]; exact hq q h h27)
          · refine zU_iconst d_Y_explore_44 ?_
            exact zU_ireturn d_Y_explore_45 (Or.inr ⟨rfl, by omega⟩) (by decide) (by decide) (⟨_, rfl, Or.inr ⟨rfl, by rcases h38.1 with h | h; exact absurd h.1 (by omega); exact h.2⟩, fun q h h27 => by rw [h38.2 q h h27]; exact hq q h h27⟩)
  exact hJ17 201 0 _ (by omega) hG12 (fun j c hj => absurd hj (by omega)) (by omega) (fun j hj => absurd hj (by omega)) (fun q h h27 => hq12 q (by omega) (by omega) (by omega) (by omega) (by omega) (by omega))
end
section
/-! the finished graph by numbers of nodes; ways to marked nodes -/
def gTo (g : gT) (x : Nat) : Nat := match g.2.1.find? (fun q => decide (q.1 = x)) with
  | some q => q.2
  | none => 0
theorem gTo_eq {g : gT} {μ : zM} (h : gRep g μ) {x : Nat} (h1 : 12 ≤ x) (h2 : x < 12 * (g.1.length + 1)) : μ 22 x = (gTo g x : Int) ∧ gTo g x ≤ g.1.length := by
  unfold gTo
  cases hf : g.2.1.find? (fun q => decide (q.1 = x)) with
  | none =>
    have : ∀ q ∈ g.2.1, q.1 ≠ x := by
      intro q hq hx
      have := List.find?_eq_none.mp hf q hq
      simp [hx] at this
    exact ⟨h.2.1.2.1 x h1 h2 this, Nat.zero_le _⟩
  | some q =>
    have hq := List.mem_of_find?_eq_some hf
    have hx := List.find?_some hf
    simp only [decide_eq_true_eq] at hx
    obtain ⟨g1, g2, g3⟩ := h.2.1.1 q hq
    rw [hx] at g3
    exact ⟨g3, g2.2⟩
theorem gTo_mem {g : gT} {μ : zM} (h : gRep g μ) {x t : Nat} : (x, t) ∈ g.2.1 → gTo g x = t := by
  intro hm
  obtain ⟨g1, g2, g3⟩ := h.2.1.1 _ hm
  simp only at g1 g2 g3
  have := (gTo_eq h (x := x) g1.1 g1.2).1
  omega
theorem gTo_mem' {g : gT} {x t : Nat} (ht : gTo g x = t) (h0 : t ≠ 0) : (x, t) ∈ g.2.1 := by
  unfold gTo at ht
  split at ht
  · next q hf =>
    have hq := List.mem_of_find?_eq_some hf
    have hx := List.find?_some hf
    simp only [decide_eq_true_eq] at hx
    rw [← hx, ← ht]
    exact hq
  · exact absurd ht.symm h0
/-- from the node k a marked one is reached over kept ones in at most d steps -/
def rch (tg : Nat → Nat → Nat) (K G : Nat → Bool) : Nat → Nat → Bool
  | 0, k => K k && G k
  | d + 1, k => rch tg K G d k || (K k && (List.range 12).any (fun e => decide (tg k e ≠ 0) && rch tg K G d (tg k e - 1)))
theorem rch_up {tg : Nat → Nat → Nat} {K G : Nat → Bool} {d k : Nat} (h : rch tg K G d k = true) : ∀ s, rch tg K G (d + s) k = true
  | 0 => h
  | s + 1 => by
    show (rch tg K G (d + s) k || _) = true
    rw [rch_up h s, Bool.true_or]
theorem rch_K {tg : Nat → Nat → Nat} {K G : Nat → Bool} : ∀ {d k : Nat}, rch tg K G d k = true → K k = true
  | 0, k, h => by simp only [rch, Bool.and_eq_true] at h; exact h.1
  | d + 1, k, h => by
    simp only [rch, Bool.or_eq_true, Bool.and_eq_true] at h
    rcases h with h | h
    · exact rch_K h
    · exact h.1
theorem rch_go {tg : Nat → Nat → Nat} {K G : Nat → Bool} {d k e u : Nat} (hK : K k = true) (he : e < 12) (ht : tg k e = u + 1) (h : rch tg K G d u = true) : rch tg K G (d + 1) k = true := by
  simp only [rch, Bool.or_eq_true, Bool.and_eq_true]
  refine Or.inr ⟨hK, any_iff.mpr ⟨e, he, ?_⟩⟩
  rw [ht]
  simp [h]
/-- how many of the first n fulfil f -/
def cnt (f : Nat → Bool) : Nat → Nat
  | 0 => 0
  | n + 1 => cnt f n + (if f n = true then 1 else 0)
theorem cnt_le (f : Nat → Bool) : ∀ n, cnt f n ≤ n
  | 0 => Nat.le_refl _
  | n + 1 => by
    have := cnt_le f n
    unfold cnt
    split <;> omega
theorem cnt_congr {f g : Nat → Bool} : ∀ n, (∀ k, k < n → f k = g k) → cnt f n = cnt g n
  | 0, _ => rfl
  | n + 1, h => by
    unfold cnt
    rw [cnt_congr n (fun k hk => h k (by omega)), h n (by omega)]
theorem cnt_drop {f g : Nat → Bool} {k0 : Nat} (hf : f k0 = true) (hg : g k0 = false) (h : ∀ k, k ≠ k0 → f k = g k) : ∀ n, k0 < n → cnt f n = cnt g n + 1
  | 0, hk => absurd hk (by omega)
  | n + 1, hk => by
    by_cases hn : k0 = n
    · subst hn
      simp only [cnt, hf, hg]
      rw [cnt_congr (f := f) (g := g) k0 (fun k hk => h k (by omega))]
      simp
    · simp only [cnt]
      rw [cnt_drop hf hg h n (by omega), h n (fun h => hn h.symm)]
      omega
/-- the labels of a search from the marked nodes backwards; w nodes wait or are done -/
def mP (g : gT) (K G : Nat → Bool) (μ : zM) (w : Nat) : Prop :=
  w + cnt (fun k => decide (μ 20 (k + 1) = -1)) g.1.length = g.1.length ∧
  (∀ j, j < w → ∃ k, k < g.1.length ∧ μ 25 j = ((k + 1 : Nat) : Int) ∧ 0 ≤ μ 20 (k + 1)) ∧
  (∀ k, k < g.1.length → 0 ≤ μ 20 (k + 1) → ∃ j, j < w ∧ μ 25 j = ((k + 1 : Nat) : Int)) ∧
  (∀ k, k < g.1.length → μ 20 (k + 1) = -1 ∨ ∃ d : Nat, d < w ∧ μ 20 (k + 1) = (d : Int) ∧ rch (fun k e => gTo g (12 * (k + 1) + e)) K G d k = true) ∧
  (∀ j j', j ≤ j' → j' < w → μ 20 (μ 25 j).toNat ≤ μ 20 (μ 25 j').toNat) ∧
  (∀ k, k < g.1.length → (K k && G k) = true → μ 20 (k + 1) = 0)
theorem mP_w {g : gT} {K G : Nat → Bool} {μ : zM} {w : Nat} (h : mP g K G μ w) : w ≤ g.1.length := by
  have := h.1
  omega
theorem mP_label {g : gT} {K G : Nat → Bool} {μ : zM} {w p u e d : Nat} (h : mP g K G μ w) (hp : p < g.1.length) (hu : u < g.1.length) (hD : μ 20 (p + 1) = -1) (hK : K p = true) (he : e < 12) (ht : gTo g (12 * (p + 1) + e) = u + 1)
    (hd : μ 20 (u + 1) = (d : Int)) (hb : ∀ k, k < g.1.length → 0 ≤ μ 20 (k + 1) → μ 20 (k + 1) ≤ (d : Int) + 1) :
    mP g K G (zup (zup μ 20 (p + 1) ((d : Int) + 1)) 25 w ((p + 1 : Nat) : Int)) (w + 1) := by
  obtain ⟨h1, h2, h3, h4, h5, h6⟩ := h
  have m20 : ∀ j, zup (zup μ 20 (p + 1) ((d : Int) + 1)) 25 w ((p + 1 : Nat) : Int) 20 j = if j = p + 1 then (d : Int) + 1 else μ 20 j := by
    intro j
    rw [zup_ne _ _ _ (by decide), zup_at]
    simp
  have m25 : ∀ j, zup (zup μ 20 (p + 1) ((d : Int) + 1)) 25 w ((p + 1 : Nat) : Int) 25 j = if j = w then ((p + 1 : Nat) : Int) else μ 25 j := by
    intro j
    rw [zup_at]
    by_cases hj : j = w
    · simp [hj]
    · simp only [hj, and_false, if_false]
      rw [zup_ne _ _ _ (by decide)]
  generalize zup (zup μ 20 (p + 1) ((d : Int) + 1)) 25 w ((p + 1 : Nat) : Int) = μ' at m20 m25
  have hrd : ∃ d' : Nat, d' < w ∧ μ 20 (u + 1) = (d' : Int) ∧ rch (fun k e => gTo g (12 * (k + 1) + e)) K G d' u = true := by
    rcases h4 u hu with h | h
    · omega
    · exact h
  obtain ⟨d', hdw, hd', hr⟩ := hrd
  have hdd : d' = d := by omega
  subst hdd
  refine ⟨?_, fun j hj => ?_, fun k hk hk0 => ?_, fun k hk => ?_, fun j j' hjj hj' => ?_, fun k hk hkg => ?_⟩
  · have := cnt_drop (f := fun k => decide (μ 20 (k + 1) = -1)) (g := fun k => decide (μ' 20 (k + 1) = -1)) (k0 := p) (by simp [hD]) (by rw [m20, if_pos rfl]; simp; omega) (fun k hk => by rw [m20, if_neg (by omega)]) g.1.length hp
    omega
  · by_cases hjw : j = w
    · subst hjw
      exact ⟨p, hp, by rw [m25, if_pos rfl], by rw [m20, if_pos rfl]; omega⟩
    · obtain ⟨k, g1, g2, g3⟩ := h2 j (by omega)
      refine ⟨k, g1, by rw [m25, if_neg hjw]; exact g2, ?_⟩
      rw [m20]
      split
      · omega
      · exact g3
  · by_cases hkp : k = p
    · subst hkp
      exact ⟨w, by omega, by rw [m25, if_pos rfl]⟩
    · rw [m20, if_neg (by omega)] at hk0
      obtain ⟨j, g1, g2⟩ := h3 k hk hk0
      exact ⟨j, by omega, by rw [m25, if_neg (by omega)]; exact g2⟩
  · by_cases hkp : k = p
    · subst hkp
      refine Or.inr ⟨d' + 1, by omega, by rw [m20, if_pos rfl]; omega, rch_go hK he ht hr⟩
    · rw [m20, if_neg (by omega)]
      rcases h4 k hk with h | ⟨x, g1, g2, g3⟩
      · exact Or.inl h
      · exact Or.inr ⟨x, by omega, g2, g3⟩
  · have old : ∀ i, i < w → ∃ k, k < g.1.length ∧ μ' 25 i = ((k + 1 : Nat) : Int) ∧ μ' 20 (k + 1) = μ 20 (k + 1) ∧ 0 ≤ μ 20 (k + 1) := by
      intro i hi
      obtain ⟨k, g1, g2, g3⟩ := h2 i hi
      refine ⟨k, g1, by rw [m25, if_neg (by omega)]; exact g2, ?_, g3⟩
      rw [m20, if_neg]
      intro hkp
      have : k = p := by omega
      subst this
      omega
    by_cases hjw : j' = w
    · subst hjw
      have e1 : μ' 20 (μ' 25 j').toNat = (d' : Int) + 1 := by
        rw [m25, if_pos rfl, Int.toNat_natCast, m20, if_pos rfl]
      rw [e1]
      by_cases hj : j = j'
      · subst hj
        rw [e1]
        exact Int.le_refl _
      · obtain ⟨k, g1, g2, g3, g4⟩ := old j (by omega)
        rw [g2, Int.toNat_natCast, g3]
        exact hb k g1 g4
    · obtain ⟨k, g1, g2, g3, g4⟩ := old j (by omega)
      obtain ⟨k', g1', g2', g3', g4'⟩ := old j' (by omega)
      have := h5 j j' hjj (by omega)
      have q1 : μ 25 j = ((k + 1 : Nat) : Int) := by rw [← g2, m25, if_neg (by omega)]
      have q2 : μ 25 j' = ((k' + 1 : Nat) : Int) := by rw [← g2', m25, if_neg (by omega)]
      rw [q1, q2, Int.toNat_natCast, Int.toNat_natCast] at this
      rw [g2, g2', Int.toNat_natCast, Int.toNat_natCast, g3, g3']
      exact this
  · have := h6 k hk hkg
    rw [m20, if_neg]
    · exact this
    · intro hkp
      have : k = p := by omega
      subst this
      omega
/-- labels and waiting nodes of μ stand in μ1 -/
def mExt (n : Nat) (μ μ1 : zM) (w w1 : Nat) : Prop := (∀ k, k < n → 0 ≤ μ 20 (k + 1) → μ1 20 (k + 1) = μ 20 (k + 1)) ∧ (∀ j, j < w → μ1 25 j = μ 25 j) ∧ w ≤ w1 ∧ ∀ q, q ≠ 20 → q ≠ 25 → μ1 q = μ q
theorem mExt_rf (n : Nat) (μ : zM) (w : Nat) : mExt n μ μ w w := ⟨fun _ _ _ => rfl, fun _ _ => rfl, Nat.le_refl _, fun _ _ _ => rfl⟩
theorem mExt_label {n : Nat} {μ μ1 : zM} {w w1 p : Nat} {v x : Int} (h : mExt n μ μ1 w w1) (hD : μ1 20 (p + 1) = -1) : mExt n μ (zup (zup μ1 20 (p + 1) v) 25 w1 x) w (w1 + 1) := by
  obtain ⟨h1, h2, h3, h4⟩ := h
  refine ⟨fun k hk h0 => ?_, fun j hj => ?_, by omega, fun q q1 q2 => by rw [zup_ne _ _ _ q2, zup_ne _ _ _ q1]; exact h4 q q1 q2⟩
  · have := h1 k hk h0
    rw [zup_ne _ _ _ (by decide), zup_at]
    by_cases hkp : k = p
    · subst hkp
      omega
    · have : ¬ (k + 1 = p + 1) := by omega
      simp only [this, and_false, if_false]
      exact h1 k hk h0
  · rw [zup_at]
    have : ¬ (j = w1) := by omega
    simp only [this, and_false, if_false]
    rw [zup_ne _ _ _ (by decide)]
    exact h2 j hj
/-- how far it is from the node k: v, or -1 -/
def mDist (tg : Nat → Nat → Nat) (K G : Nat → Bool) (k : Nat) (v : Int) : Prop := (v = -1 ∧ ∀ d, rch tg K G d k = false) ∨ ∃ d : Nat, v = (d : Int) ∧ d ≤ 200 ∧ rch tg K G d k = true ∧ ∀ d', d' < d → rch tg K G d' k = false
/-- what measure is left with: all labels are right -/
theorem mP_done {g : gT} {K G : Nat → Bool} {μ : zM} {w : Nat} (h : mP g K G μ w) (hn : g.1.length ≤ 200) (htg : ∀ k e, k < g.1.length → e < 12 → gTo g (12 * (k + 1) + e) ≤ g.1.length)
    (hd : ∀ j, j < w → ∀ p e, p < g.1.length → K p = true → e < 12 → gTo g (12 * (p + 1) + e) = (μ 25 j).toNat → 0 ≤ μ 20 (p + 1) ∧ μ 20 (p + 1) ≤ μ 20 (μ 25 j).toNat + 1) :
    ∀ k, k < g.1.length → mDist (fun k e => gTo g (12 * (k + 1) + e)) K G k (μ 20 (k + 1)) := by
  have comp : ∀ d k, k < g.1.length → rch (fun k e => gTo g (12 * (k + 1) + e)) K G d k = true → 0 ≤ μ 20 (k + 1) ∧ μ 20 (k + 1) ≤ (d : Int) := by
    intro d
    induction d with
    | zero =>
      intro k hk hr
      have := h.2.2.2.2.2 k hk hr
      omega
    | succ d ih =>
      intro k hk hr
      simp only [rch, Bool.or_eq_true] at hr
      rcases hr with hr | hr
      · have := ih k hk hr
        omega
      · rw [Bool.and_eq_true] at hr
        obtain ⟨hK, hr⟩ := hr
        obtain ⟨e, he, hr⟩ := any_iff.mp hr
        simp only [Bool.and_eq_true, decide_eq_true_eq] at hr
        have hle := htg k e hk he
        have hu : gTo g (12 * (k + 1) + e) - 1 < g.1.length := by have := hr.1; omega
        have i1 := ih _ hu hr.2
        obtain ⟨j, hj, hq⟩ := h.2.2.1 _ hu i1.1
        have e1 : (gTo g (12 * (k + 1) + e) - 1 + 1 : Nat) = gTo g (12 * (k + 1) + e) := by have := hr.1; omega
        rw [e1] at hq i1
        have i2 := hd j hj k e hk hK he (by rw [hq, Int.toNat_natCast])
        rw [hq, Int.toNat_natCast] at i2
        omega
  intro k hk
  rcases h.2.2.2.1 k hk with hv | ⟨d, hdw, hv, hr⟩
  · refine Or.inl ⟨hv, fun d => ?_⟩
    cases hr : rch (fun k e => gTo g (12 * (k + 1) + e)) K G d k
    · rfl
    · have := comp d k hk hr
      omega
  · have hw := mP_w h
    refine Or.inr ⟨d, hv, by omega, hr, fun d' hd' => ?_⟩
    cases hr' : rch (fun k e => gTo g (12 * (k + 1) + e)) K G d' k
    · rfl
    · have := comp d' k hk hr'
      omega
theorem gAt_es (nxt : Nat → Nat → Option Nat) (c0 : Nat) : ∀ t, (gAt nxt c0 t).2.1.length ≤ t
  | 0 => by simp [gAt]
  | t + 1 => by
    have ih := gAt_es nxt c0 t
    simp only [gAt]
    unfold gStep
    split
    · omega
    · split
      · omega
      · split <;> simp <;> omega
section ZD
variable {Γ : zG} {cc : ByteArray} {own : String} {nL : Nat} {rt : Option FieldType} {hh : List (Nat × Nat × Nat × Nat)} {R : Room} {k0 s0 : Nat} {Fn : State → Prop} {b : Bool} {n : Nat} {μ : zM} {pc : Nat} {L L' : List (Option zV)} {st : List zV}
/-- a local of which no more is said -/
theorem zU.drop (j : Nat) (h : L.set j none = L') (kk : zU Γ cc own nL rt hh R k0 s0 Fn b n μ pc L' st) : zU Γ cc own nL rt hh R k0 s0 Fn b n μ pc L st := by
  subst h
  refine zU.forget (by simp) (fun i v hi => ?_) kk
  by_cases hij : j = i
  · subst hij
    by_cases hl : j < L.length
    · rw [List.getElem?_set_self hl] at hi
      cases hi
    · rw [List.getElem?_eq_none (by simpa using hl)] at hi
      cases hi
  · rw [List.getElem?_set_ne hij] at hi
    exact hi
end ZD
end
section
theorem chn_len (ES : List (Nat × Nat)) (t : Nat) : (chn ES t).length ≤ ES.length := by
  simp only [chn, List.length_reverse, List.length_map]
  exact List.length_filter_le _ _
/-- what measureInto is at: l is left of the chain of the edges into u -/
def mIn (g : gT) (K G : Nat → Bool) (μ : zM) (w u : Nat) (x : Int) (l : List Nat) (w1 : Nat) (μ1 : zM) : Prop :=
  gCh μ x l ∧ (∀ y ∈ l, (y, u + 1) ∈ g.2.1) ∧ (∀ y, (y, u + 1) ∈ g.2.1 → y ∈ l ∨ ∀ p e, y = 12 * (p + 1) + e → e < 12 → K p = true → 0 ≤ μ1 20 (p + 1)) ∧ mP g K G μ1 w1 ∧ mExt g.1.length μ μ1 w w1 ∧
  ∀ k, k < g.1.length → 0 ≤ μ1 20 (k + 1) → μ1 20 (k + 1) ≤ μ 20 (u + 1) + 1
theorem mIn_skip {g : gT} {K G : Nat → Bool} {μ μ1 : zM} {w u w1 y : Nat} {l : List Nat} {x : Int} (h : mIn g K G μ w u x (y :: l) w1 μ1) (hs : ∀ p e, y = 12 * (p + 1) + e → e < 12 → K p = true → 0 ≤ μ1 20 (p + 1)) : mIn g K G μ w u (μ 24 y) l w1 μ1 := by
  obtain ⟨h1, h2, h3, h4, h5, h6⟩ := h
  refine ⟨h1.2, fun z hz => h2 z (List.mem_cons_of_mem _ hz), fun z hz => ?_, h4, h5, h6⟩
  rcases h3 z hz with h | h
  · rcases List.mem_cons.mp h with rfl | h
    · exact Or.inr hs
    · exact Or.inl h
  · exact Or.inr h
theorem mIn_label {g : gT} {K G : Nat → Bool} {μ μ1 : zM} {w u w1 p e d : Nat} {l : List Nat} {x : Int} (hG : gRep g μ) (h : mIn g K G μ w u x ((12 * (p + 1) + e) :: l) w1 μ1) (he : e < 12) (hu : u < g.1.length) (hd : μ 20 (u + 1) = (d : Int)) (hD : μ1 20 (p + 1) = -1) (hK : K p = true) :
    mIn g K G μ w u (μ 24 (12 * (p + 1) + e)) l (w1 + 1) (zup (zup μ1 20 (p + 1) ((d : Int) + 1)) 25 w1 ((p + 1 : Nat) : Int)) := by
  obtain ⟨h1, h2, h3, h4, h5, h6⟩ := h
  have hm := h2 _ List.mem_cons_self
  have hb := (hG.2.1.1 _ hm).1
  simp only at hb
  have hp : p < g.1.length := by omega
  have hd1 : μ1 20 (u + 1) = (d : Int) := by rw [h5.1 u hu (by omega)]; exact hd
  have m20 : ∀ j, zup (zup μ1 20 (p + 1) ((d : Int) + 1)) 25 w1 ((p + 1 : Nat) : Int) 20 j = if j = p + 1 then (d : Int) + 1 else μ1 20 j := by
    intro j
    rw [zup_ne _ _ _ (by decide), zup_at]
    simp
  refine ⟨h1.2, fun z hz => h2 z (List.mem_cons_of_mem _ hz), fun z hz => ?_, mP_label h4 hp hu hD hK he (gTo_mem hG hm) hd1 (fun k hk hk0 => by rw [← hd]; exact h6 k hk hk0), mExt_label h5 hD, fun k hk hk0 => ?_⟩
  · have keep : ∀ q, 0 ≤ μ1 20 (q + 1) → 0 ≤ zup (zup μ1 20 (p + 1) ((d : Int) + 1)) 25 w1 ((p + 1 : Nat) : Int) 20 (q + 1) := by
      intro q hq
      rw [m20]
      split <;> omega
    rcases h3 z hz with h | h
    · rcases List.mem_cons.mp h with rfl | h
      · refine Or.inr (fun q e' hq he' _ => ?_)
        have : q = p := by omega
        subst this
        rw [m20, if_pos rfl]
        omega
      · exact Or.inl h
    · exact Or.inr (fun q e' hq he' hKq => keep q (h q e' hq he' hKq))
  · rw [m20] at hk0 ⊢
    by_cases hkp : k + 1 = p + 1
    · rw [if_pos hkp]
      omega
    · rw [if_neg hkp] at hk0 ⊢
      exact h6 k hk hk0
theorem gCh_r {g : gT} {μ : zM} {u : Nat} {x : Int} {l : List Nat} (hG : gRep g μ) (hm : ∀ y ∈ l, (y, u + 1) ∈ g.2.1) (h : gCh μ x l) : 0 ≤ x ∧ x ≤ 2412 := by
  have hn := hG.1.2.1
  cases l with
  | nil =>
    have : x = 0 := h
    omega
  | cons y l =>
    have hxy := h.1
    have := (hG.2.1.1 _ (hm y List.mem_cons_self)).1
    simp only at this
    omega
theorem gCh_nil {g : gT} {μ : zM} {u : Nat} {l : List Nat} (hG : gRep g μ) (hm : ∀ y ∈ l, (y, u + 1) ∈ g.2.1) (h : gCh μ 0 l) : l = [] := by
  cases l with
  | nil => rfl
  | cons y l =>
    have hxy := h.1
    have := (hG.2.1.1 _ (hm y List.mem_cons_self)).1
    simp only at this
    omega
set_option maxRecDepth 100000 in
set_option maxHeartbeats 4000000 in
theorem m_G_measureInto (l : Launch) (μ : zM) {g : gT} {K G : Nat → Bool} (hG : gRep g μ) (hK : ∀ k, k < g.1.length → μ 19 (k + 1) = zB (K k)) {w u : Nat} (hn : g.1.length ≤ 200) (hES : g.2.1.length ≤ 2400) (hP : mP g K G μ w) (hu : u < g.1.length) (hu0 : 0 ≤ μ 20 (u + 1)) (hb : ∀ k, k < g.1.length → 0 ≤ μ 20 (k + 1) → μ 20 (k + 1) ≤ μ 20 (u + 1) + 1) :
    zC l y_G_measureInto b_G_measureInto 7 (some .int) [] 0 0 0 false [zp 15, zi ((u + 1 : Nat) : Int), zi (w : Int)] μ (zRi (fun r μ' => ∃ w1 : Nat, r = w1 ∧ mP g K G μ' w1 ∧ mExt g.1.length μ μ' w w1 ∧ (∀ k, k < g.1.length → 0 ≤ μ' 20 (k + 1) → μ' 20 (k + 1) ≤ μ 20 (u + 1) + 1) ∧ ∀ p e, p < g.1.length → K p = true → e < 12 → gTo g (12 * (p + 1) + e) = u + 1 → 0 ≤ μ' 20 (p + 1))) := by
  refine zC.of (own := n_G) (L := [some (zp 15), some (zi ((u + 1 : Nat) : Int)), some (zi (w : Int)), none, none, none, none]) (by decide) rfl (by simp [zcat]) (Nat.le_of_ble_eq_true rfl) rfl (fun Γ => ?_)
  obtain ⟨du, hduw, hdu, _⟩ : ∃ d : Nat, d < w ∧ μ 20 (u + 1) = (d : Int) ∧ _ := (hP.2.2.2.1 u hu).resolve_left (by omega)
  have hw := mP_w hP
  have hcl := chn_len g.2.1 (u + 1)
  have hch0 := hG.2.1.2.2 (u + 1) (by omega) (by omega)
  refine zU_iload_n d_G_measureInto_0 rfl ?_
  refine zU_istore_n d_G_measureInto_1 (by decide) ?_
  refine zU.eqL (L' := [some (zp 15), some (zi ((u + 1 : Nat) : Int)), some (zi (w : Int)), some (zi (w : Int)), none, none, none]) rfl ?_
  refine zU_aload_n d_G_measureInto_2 rfl ?_
  refine zU_getR 23 d_G_measureInto_3 f_G_34 (by decide) rfl rfl rfl ?_
  refine zU_iload_n d_G_measureInto_6 rfl ?_
  refine zU_iald (v := μ 23 (u + 1)) d_G_measureInto_7 (by decide) rfl (by decide) (by omega) (rfl) ?_
  refine zU_istore d_G_measureInto_8 (by decide) ?_
  refine zU.eqL (L' := [some (zp 15), some (zi ((u + 1 : Nat) : Int)), some (zi (w : Int)), some (zi (w : Int)), some (zi (μ 23 (u + 1))), none, none]) rfl ?_
  refine zU_iconst d_G_measureInto_10 ?_
  refine zU_istore d_G_measureInto_11 (by decide) ?_
  refine zU.eqL (L' := [some (zp 15), some (zi ((u + 1 : Nat) : Int)), some (zi (w : Int)), some (zi (w : Int)), some (zi (μ 23 (u + 1))), some (zi 0), none]) rfl ?_
  have hJ13 : ∀ (d : Nat) (i : Nat) (x : Int) (l : List Nat) (w1 : Nat) (μ1 : zM), l.length = d → i + l.length = (chn g.2.1 (u + 1)).length → (0 ≤ x ∧ x ≤ 2412) → mIn g K G μ w u x l w1 μ1 → zU Γ b_G_measureInto n_G 7 (some .int) [] (zRm 0 0 0) 0 0 (zFin Γ 0 false (zRi (fun r μ' => ∃ w1 : Nat, r = w1 ∧ mP g K G μ' w1 ∧ mExt g.1.length μ μ' w w1 ∧ (∀ k, k < g.1.length → 0 ≤ μ' 20 (k + 1) → μ' 20 (k + 1) ≤ μ 20 (u + 1) + 1) ∧ ∀ p e, p < g.1.length → K p = true → e < 12 → gTo g (12 * (p + 1) + e) = u + 1 → 0 ≤ μ' 20 (p + 1)))) false 0 μ1 13 [some (zp 15), some (zi ((u + 1 : Nat) : Int)), some (zi (w : Int)), some (zi (w1 : Int)), some (zi x), some (zi (i : Int)), none] [] := by
    intro d
    induction d using Nat.strongRecOn with
    | _ d ih13 =>
      intro i x l w1 μ1 hd hi hx hI
      have hw1 := mP_w hI.2.2.2.1
      refine zU_iload d_G_measureInto_13 rfl ?_
      refine zU_if_eq 95 d_G_measureInto_15 (by decide) (by omega) (fun h15 => ?_) (fun h15 => ?_)
      · refine zU_iload_n d_G_measureInto_95 rfl ?_
        exact zU_ireturn d_G_measureInto_96 (Or.inl rfl) (by decide) (by decide) (⟨_, rfl, w1, rfl, hI.2.2.2.1, hI.2.2.2.2.1, hI.2.2.2.2.2, fun p e hp hKp he hto => by have hl : l = [] := gCh_nil hG hI.2.1 (by rw [h15] at hI; exact hI.1); rcases hI.2.2.1 _ (gTo_mem' hto (by omega)) with h | h; (rw [hl] at h; cases h); exact h p e rfl he hKp⟩)
      · obtain ⟨y, l', rfl⟩ : ∃ y l', l = y :: l' := by
          cases l with
          | nil => exact absurd hI.1 h15
          | cons y l' => exact ⟨y, l', rfl⟩
        have hxy := hI.1.1
        subst hxy
        have hym := hI.2.1 y List.mem_cons_self
        have hyb := (hG.2.1.1 _ hym).1
        simp only at hyb
        obtain ⟨p, hpy⟩ : ∃ p, p + 1 = y / 12 := ⟨y / 12 - 1, by omega⟩
        have hp : p < g.1.length := by omega
        have hye : y = 12 * (p + 1) + y % 12 := by omega
        have hy12 : (y : Int) / 12 = ((p + 1 : Nat) : Int) := by omega
        simp only [List.length_cons] at hi
        refine zU_iload d_G_measureInto_18 rfl ?_
        refine zU_sipush d_G_measureInto_20 (by decide) ?_
        refine zU_icmp_ge 95 d_G_measureInto_23 (by decide) (by omega) (by omega) (fun h23 => ?_) (fun h23 => ?_)
        · exfalso; omega
        · refine zU.eqL (L' := [some (zp 15), some (zi ((u + 1 : Nat) : Int)), some (zi (w : Int)), some (zi (w1 : Int)), some (zi (y : Int)), some (zi (i : Int)), none]) (rfl) ?_
          refine zU_iload d_G_measureInto_26 rfl ?_
          refine zU_bipush d_G_measureInto_28 (by decide) ?_
          refine zU_idiv d_G_measureInto_30 (by omega) (by omega) ?_
          refine zU_istore d_G_measureInto_31 (by decide) ?_
          refine zU.eqL (L' := [some (zp 15), some (zi ((u + 1 : Nat) : Int)), some (zi (w : Int)), some (zi (w1 : Int)), some (zi (y : Int)), some (zi (i : Int)), some (zi ((y : Int) / 12))]) rfl ?_
          refine zU.eqL (L' := [some (zp 15), some (zi ((u + 1 : Nat) : Int)), some (zi (w : Int)), some (zi (w1 : Int)), some (zi (y : Int)), some (zi (i : Int)), some (zi ((p + 1 : Nat) : Int))]) (by rw [hy12]) ?_
          refine zU_aload_n d_G_measureInto_33 rfl ?_
          refine zU_getR 19 d_G_measureInto_34 f_G_22 (by decide) rfl rfl rfl ?_
          refine zU_iload d_G_measureInto_37 rfl ?_
          refine zU_zald (v := zB (K p)) d_G_measureInto_39 (by decide) rfl (by decide) (by omega) (by rw [hI.2.2.2.2.1.2.2.2 19 (by decide) (by decide)]; exact (congrArg (μ 19) (by omega)).trans (hK p hp)) ?_
          refine zU_if_eq 80 d_G_measureInto_40 (by decide) (zBr _) (fun h40 => ?_) (fun h40 => ?_)
          · refine zU_aload_n d_G_measureInto_80 rfl ?_
            refine zU_getR 24 d_G_measureInto_81 f_G_37 (by decide) rfl rfl rfl ?_
            refine zU_iload d_G_measureInto_84 rfl ?_
            refine zU_iald (v := μ 24 y) d_G_measureInto_86 (by decide) rfl (by decide) (by omega) (by rw [hI.2.2.2.2.1.2.2.2 24 (by decide) (by decide)]; rfl) ?_
            refine zU_istore d_G_measureInto_87 (by decide) ?_
            refine zU.eqL (L' := [some (zp 15), some (zi ((u + 1 : Nat) : Int)), some (zi (w : Int)), some (zi (w1 : Int)), some (zi (μ 24 y)), some (zi (i : Int)), some (zi ((p + 1 : Nat) : Int))]) rfl ?_
            refine zU_iinc d_G_measureInto_89 rfl ?_
            refine zU.eqL (L' := [some (zp 15), some (zi ((u + 1 : Nat) : Int)), some (zi (w : Int)), some (zi (w1 : Int)), some (zi (μ 24 y)), some (zi (((i + 1 : Nat) : Int))), some (zi ((p + 1 : Nat) : Int))]) (by first | rfl | (show _ = _; simp only [List.set]; congr 3; omega)) ?_
            refine zU_goto 13 d_G_measureInto_92 (by decide) ?_
            refine zU.drop 6 (L' := [some (zp 15), some (zi ((u + 1 : Nat) : Int)), some (zi (w : Int)), some (zi (w1 : Int)), some (zi (μ 24 y)), some (zi (((i + 1 : Nat) : Int))), none]) rfl ?_
            exact ih13 _ (by simp only [List.length_cons] at hd; omega) (i + 1) (μ 24 y) l' w1 μ1 rfl (by omega) (gCh_r hG (fun z hz => hI.2.1 z (List.mem_cons_of_mem _ hz)) hI.1.2) (mIn_skip hI (fun p' e' h1 h2 h3 => by have : p' = p := (by omega); subst this; rw [zB_zero.mp h40] at h3; cases h3))
          · have hd51 : μ1 20 (p + 1) = -1 ∨ 0 ≤ μ1 20 (p + 1) ∧ μ1 20 (p + 1) ≤ 200 := by
              rcases hI.2.2.2.1.2.2.2.1 p hp with h | ⟨d9, h9, h8, _⟩
              · exact Or.inl h
              · exact Or.inr (by omega)
            refine zU_aload_n d_G_measureInto_43 rfl ?_
            refine zU_getR 20 d_G_measureInto_44 f_G_25 (by decide) rfl rfl rfl ?_
            refine zU_iload d_G_measureInto_47 rfl ?_
            refine zU_iald (v := μ1 20 (p + 1)) d_G_measureInto_49 (by decide) rfl (by decide) (by omega) (congrArg (μ1 20) (by omega)) ?_
            refine zU_iconst d_G_measureInto_50 ?_
            refine zU_icmp_ne 80 d_G_measureInto_51 (by decide) (by omega) (by omega) (fun h51 => ?_) (fun h51 => ?_)
            · refine zU_aload_n d_G_measureInto_80 rfl ?_
              refine zU_getR 24 d_G_measureInto_81 f_G_37 (by decide) rfl rfl rfl ?_
              refine zU_iload d_G_measureInto_84 rfl ?_
              refine zU_iald (v := μ 24 y) d_G_measureInto_86 (by decide) rfl (by decide) (by omega) (by rw [hI.2.2.2.2.1.2.2.2 24 (by decide) (by decide)]; rfl) ?_
              refine zU_istore d_G_measureInto_87 (by decide) ?_
              refine zU.eqL (L' := [some (zp 15), some (zi ((u + 1 : Nat) : Int)), some (zi (w : Int)), some (zi (w1 : Int)), some (zi (μ 24 y)), some (zi (i : Int)), some (zi ((p + 1 : Nat) : Int))]) rfl ?_
              refine zU_iinc d_G_measureInto_89 rfl ?_
              refine zU.eqL (L' := [some (zp 15), some (zi ((u + 1 : Nat) : Int)), some (zi (w : Int)), some (zi (w1 : Int)), some (zi (μ 24 y)), some (zi (((i + 1 : Nat) : Int))), some (zi ((p + 1 : Nat) : Int))]) (by first | rfl | (show _ = _; simp only [List.set]; congr 3; omega)) ?_
              refine zU_goto 13 d_G_measureInto_92 (by decide) ?_
              refine zU.drop 6 (L' := [some (zp 15), some (zi ((u + 1 : Nat) : Int)), some (zi (w : Int)), some (zi (w1 : Int)), some (zi (μ 24 y)), some (zi (((i + 1 : Nat) : Int))), none]) rfl ?_
              exact ih13 _ (by simp only [List.length_cons] at hd; omega) (i + 1) (μ 24 y) l' w1 μ1 rfl (by omega) (gCh_r hG (fun z hz => hI.2.1 z (List.mem_cons_of_mem _ hz)) hI.1.2) (mIn_skip hI (fun p' e' h1 h2 h3 => by have : p' = p := (by omega); subst this; omega))
            · have h51' : μ1 20 (p + 1) = -1 := h51
              refine zU_aload_n d_G_measureInto_54 rfl ?_
              refine zU_getR 20 d_G_measureInto_55 f_G_25 (by decide) rfl rfl rfl ?_
              refine zU_iload d_G_measureInto_58 rfl ?_
              refine zU_aload_n d_G_measureInto_60 rfl ?_
              refine zU_getR 20 d_G_measureInto_61 f_G_25 (by decide) rfl rfl rfl ?_
              refine zU_iload_n d_G_measureInto_64 rfl ?_
              refine zU_iald (v := (du : Int)) d_G_measureInto_65 (by decide) rfl (by decide) (by omega) ((hI.2.2.2.2.1.1 u hu (by omega)).trans hdu) ?_
              refine zU_iconst d_G_measureInto_66 ?_
              refine zU_iadd d_G_measureInto_67 ?_
              refine zU_iast d_G_measureInto_68 (by decide) rfl (by decide) (by omega) ?_
              refine zU.eqM (μ' := zup μ1 20 (p + 1) ((du : Int) + 1)) rfl ?_
              refine zU_aload_n d_G_measureInto_69 rfl ?_
              refine zU_getR 25 d_G_measureInto_70 f_G_40 (by decide) rfl rfl rfl ?_
              refine zU_iload_n d_G_measureInto_73 rfl ?_
              refine zU_iload d_G_measureInto_74 rfl ?_
              refine zU_iast d_G_measureInto_76 (by decide) rfl (by decide) (by omega) ?_
              refine zU.eqM (μ' := zup (zup μ1 20 (p + 1) ((du : Int) + 1)) 25 w1 ((p + 1 : Nat) : Int)) rfl ?_
              refine zU_iinc d_G_measureInto_77 rfl ?_
              refine zU.eqL (L' := [some (zp 15), some (zi ((u + 1 : Nat) : Int)), some (zi (w : Int)), some (zi (((w1 + 1 : Nat) : Int))), some (zi (y : Int)), some (zi (i : Int)), some (zi ((p + 1 : Nat) : Int))]) (by first | rfl | (show _ = _; simp only [List.set]; congr 3; omega)) ?_
              refine zU_aload_n d_G_measureInto_80 rfl ?_
              refine zU_getR 24 d_G_measureInto_81 f_G_37 (by decide) rfl rfl rfl ?_
              refine zU_iload d_G_measureInto_84 rfl ?_
              refine zU_iald (v := μ 24 y) d_G_measureInto_86 (by decide) rfl (by decide) (by omega) (by rw [zup_ne _ _ _ (by decide), zup_ne _ _ _ (by decide), hI.2.2.2.2.1.2.2.2 24 (by decide) (by decide)]; rfl) ?_
              refine zU_istore d_G_measureInto_87 (by decide) ?_
              refine zU.eqL (L' := [some (zp 15), some (zi ((u + 1 : Nat) : Int)), some (zi (w : Int)), some (zi (((w1 + 1 : Nat) : Int))), some (zi (μ 24 y)), some (zi (i : Int)), some (zi ((p + 1 : Nat) : Int))]) rfl ?_
              refine zU_iinc d_G_measureInto_89 rfl ?_
              refine zU.eqL (L' := [some (zp 15), some (zi ((u + 1 : Nat) : Int)), some (zi (w : Int)), some (zi (((w1 + 1 : Nat) : Int))), some (zi (μ 24 y)), some (zi (((i + 1 : Nat) : Int))), some (zi ((p + 1 : Nat) : Int))]) (by first | rfl | (show _ = _; simp only [List.set]; congr 3; omega)) ?_
              refine zU_goto 13 d_G_measureInto_92 (by decide) ?_
              refine zU.drop 6 (L' := [some (zp 15), some (zi ((u + 1 : Nat) : Int)), some (zi (w : Int)), some (zi (((w1 + 1 : Nat) : Int))), some (zi (μ 24 y)), some (zi (((i + 1 : Nat) : Int))), none]) rfl ?_
              exact ih13 _ (by simp only [List.length_cons] at hd; omega) (i + 1) (μ 24 y) l' (w1 + 1) _ rfl (by omega) (gCh_r hG (fun z hz => hI.2.1 z (List.mem_cons_of_mem _ hz)) hI.1.2) (by rw [hye] at hI ⊢; exact mIn_label hG hI (by omega) hu hdu h51' (zB_nz.mp h40))
  refine zU.loose ?_
  exact hJ13 _ 0 (μ 23 (u + 1)) (chn g.2.1 (u + 1)) w μ rfl (by omega) (gCh_r hG (fun y hy => chn_mem.mp hy) hch0) ⟨hch0, fun y hy => chn_mem.mp hy, fun y hy => Or.inl (chn_mem.mpr hy), hP, mExt_rf _ _ _, hb⟩
end
section
/-- the first loop of measure: k nodes have been looked at, w of them wait -/
def mIni (K G : Nat → Bool) (μ : zM) (k w : Nat) (μ1 : zM) : Prop := w + cnt (fun j => !(K j && G j)) k = k ∧ (∀ j, j < k → μ1 20 (j + 1) = if (K j && G j) = true then 0 else -1) ∧ (∀ j, j < w → ∃ k', k' < k ∧ μ1 25 j = ((k' + 1 : Nat) : Int) ∧ (K k' && G k') = true) ∧
  (∀ k', k' < k → (K k' && G k') = true → ∃ j, j < w ∧ μ1 25 j = ((k' + 1 : Nat) : Int)) ∧ ∀ q, q ≠ 20 → q ≠ 25 → μ1 q = μ q
theorem mIni_no {K G : Nat → Bool} {μ μ1 : zM} {k w : Nat} (h : mIni K G μ k w μ1) (hb : (K k && G k) = false) : mIni K G μ (k + 1) w (zup μ1 20 (k + 1) (-1)) := by
  obtain ⟨h1, h2, h3, h4, h5⟩ := h
  refine ⟨by show w + (cnt _ k + (if (!(K k && G k)) = true then 1 else 0)) = k + 1; rw [hb]; simp only [Bool.not_false, if_true]; omega, fun j hj => ?_, fun j hj => ?_, fun k' hk' hb' => ?_, fun q q1 q2 => by rw [zup_ne _ _ _ q1]; exact h5 q q1 q2⟩
  · rw [zup_at]
    by_cases hjk : j = k
    · subst hjk; simp [hb]
    · have : ¬ (j + 1 = k + 1) := by omega
      simp only [this, and_false, if_false]
      exact h2 j (by omega)
  · obtain ⟨k', g1, g2, g3⟩ := h3 j hj
    exact ⟨k', by omega, by rw [zup_ne _ _ _ (by decide)]; exact g2, g3⟩
  · have : k' ≠ k := fun h => by rw [h, hb] at hb'; cases hb'
    obtain ⟨j, g1, g2⟩ := h4 k' (by omega) hb'
    exact ⟨j, g1, by rw [zup_ne _ _ _ (by decide)]; exact g2⟩
theorem mIni_yes {K G : Nat → Bool} {μ μ1 : zM} {k w : Nat} (h : mIni K G μ k w μ1) (hb : (K k && G k) = true) : mIni K G μ (k + 1) (w + 1) (zup (zup μ1 20 (k + 1) 0) 25 w ((k + 1 : Nat) : Int)) := by
  obtain ⟨h1, h2, h3, h4, h5⟩ := h
  have m25 : ∀ j, zup (zup μ1 20 (k + 1) 0) 25 w ((k + 1 : Nat) : Int) 25 j = if j = w then ((k + 1 : Nat) : Int) else μ1 25 j := by
    intro j
    rw [zup_at]
    by_cases hj : j = w
    · simp [hj]
    · simp only [hj, and_false, if_false]
      rw [zup_ne _ _ _ (by decide)]
  refine ⟨by show w + 1 + (cnt _ k + (if (!(K k && G k)) = true then 1 else 0)) = k + 1; rw [hb]; simp only [Bool.not_true, Bool.false_eq_true, if_false]; omega, fun j hj => ?_, fun j hj => ?_, fun k' hk' hb' => ?_, fun q q1 q2 => by rw [zup_ne _ _ _ q2, zup_ne _ _ _ q1]; exact h5 q q1 q2⟩
  · rw [zup_ne _ _ _ (by decide), zup_at]
    by_cases hjk : j = k
    · subst hjk; simp [hb]
    · have : ¬ (j + 1 = k + 1) := by omega
      simp only [this, and_false, if_false]
      exact h2 j (by omega)
  · by_cases hjw : j = w
    · exact ⟨k, by omega, by rw [m25, if_pos hjw], hb⟩
    · obtain ⟨k', g1, g2, g3⟩ := h3 j (by omega)
      exact ⟨k', by omega, by rw [m25, if_neg hjw]; exact g2, g3⟩
  · by_cases hkk : k' = k
    · subst hkk
      exact ⟨w, by omega, by rw [m25, if_pos rfl]⟩
    · obtain ⟨j, g1, g2⟩ := h4 k' (by omega) hb'
      exact ⟨j, by omega, by rw [m25, if_neg (by omega)]; exact g2⟩
theorem mIni_end {g : gT} {K G : Nat → Bool} {μ μ1 : zM} {w : Nat} (h : mIni K G μ g.1.length w μ1) : mP g K G μ1 w := by
  obtain ⟨h1, h2, h3, h4, h5⟩ := h
  have z : ∀ j, j < w → μ1 20 (μ1 25 j).toNat = 0 := by
    intro j hj
    obtain ⟨k', g1, g2, g3⟩ := h3 j hj
    rw [g2, Int.toNat_natCast, h2 k' g1, if_pos g3]
  refine ⟨?_, fun j hj => ?_, fun k hk hk0 => ?_, fun k hk => ?_, fun j j' hjj hj' => by rw [z j (by omega), z j' hj']; exact Int.le_refl _, fun k hk hb => by rw [h2 k hk, if_pos hb]⟩
  · have : cnt (fun k => decide (μ1 20 (k + 1) = -1)) g.1.length = cnt (fun j => !(K j && G j)) g.1.length := by
      apply cnt_congr
      intro k hk
      rw [h2 k hk]
      cases K k && G k <;> simp
    omega
  · obtain ⟨k', g1, g2, g3⟩ := h3 j hj
    exact ⟨k', g1, g2, by rw [h2 k' g1, if_pos g3]; omega⟩
  · refine h4 k hk ?_
    rw [h2 k hk] at hk0
    cases hb : K k && G k
    · rw [hb] at hk0
      simp at hk0
    · rfl
  · cases hb : K k && G k
    · exact Or.inl (by rw [h2 k hk, hb]; rfl)
    · obtain ⟨j, g1, -⟩ := h4 k hk hb
      exact Or.inr ⟨0, by omega, by rw [h2 k hk, if_pos hb]; rfl, hb⟩
/-- the first i nodes of the queue are done -/
def mDone (g : gT) (K : Nat → Bool) (μ : zM) (i : Nat) : Prop := ∀ j, j < i → ∀ p e, p < g.1.length → K p = true → e < 12 → gTo g (12 * (p + 1) + e) = (μ 25 j).toNat → 0 ≤ μ 20 (p + 1) ∧ μ 20 (p + 1) ≤ μ 20 (μ 25 j).toNat + 1
theorem mDone_step {g : gT} {K G : Nat → Bool} {μ μ1 : zM} {i w w1 u : Nat} (h : mDone g K μ i) (hP : mP g K G μ w) (hi : i < w) (hq : μ 25 i = ((u + 1 : Nat) : Int)) (hu : u < g.1.length) (hu0 : 0 ≤ μ 20 (u + 1)) (he : mExt g.1.length μ μ1 w w1)
    (hb : ∀ k, k < g.1.length → 0 ≤ μ1 20 (k + 1) → μ1 20 (k + 1) ≤ μ 20 (u + 1) + 1) (hd : ∀ p e, p < g.1.length → K p = true → e < 12 → gTo g (12 * (p + 1) + e) = u + 1 → 0 ≤ μ1 20 (p + 1)) : mDone g K μ1 (i + 1) := by
  intro j hj p e hp hK he' ht
  rw [he.2.1 j (by omega)] at ht ⊢
  by_cases hji : j = i
  · subst hji
    rw [hq, Int.toNat_natCast] at ht ⊢
    have h0 := hd p e hp hK he' ht
    rw [he.1 u hu hu0]
    exact ⟨h0, hb p hp h0⟩
  · obtain ⟨g1, g2⟩ := h j (by omega) p e hp hK he' ht
    obtain ⟨k, q1, q2, q3⟩ := hP.2.1 j (by omega)
    rw [he.1 p hp g1, q2, Int.toNat_natCast, he.1 k q1 q3]
    rw [q2, Int.toNat_natCast] at g2
    exact ⟨g1, g2⟩
set_option maxRecDepth 100000 in
set_option maxHeartbeats 4000000 in
theorem m_G_measure (l : Launch) (μ : zM) {g : gT} {K G : Nat → Bool} (hG : gRep g μ) (hK : ∀ k, k < g.1.length → μ 19 (k + 1) = zB (K k)) (hM : ∀ k, k < g.1.length → μ 18 (k + 1) = zB (G k)) (hn : g.1.length ≤ 200) (hES : g.2.1.length ≤ 2400) :
    zC l y_G_measure b_G_measure 4 none [] 1 0 26 false [zp 15] μ (zRv (fun μ' => (∀ k, k < g.1.length → mDist (fun k e => gTo g (12 * (k + 1) + e)) K G k (μ' 20 (k + 1))) ∧ ∀ q, q ≠ 20 → q ≠ 25 → μ' q = μ q)) := by
  refine zC.of (own := n_G) (L := [some (zp 15), none, none, none]) (by decide) rfl (by simp [zcat]) (Nat.le_of_ble_eq_true rfl) rfl (fun Γ => ?_)
  refine zU_iconst d_G_measure_0 ?_
  refine zU_istore_n d_G_measure_1 (by decide) ?_
  refine zU.eqL (L' := [some (zp 15), some (zi 0), none, none]) rfl ?_
  refine zU_iconst d_G_measure_2 ?_
  refine zU_istore_n d_G_measure_3 (by decide) ?_
  refine zU.eqL (L' := [some (zp 15), some (zi 0), some (zi 1), none]) rfl ?_
  have hJ4 : ∀ (d : Nat) (k w : Nat) (μ1 : zM), k + d = g.1.length → mIni K G μ k w μ1 → zU Γ b_G_measure n_G 4 none [] (zRm 1 0 26) 0 0 (zFin Γ 0 false (zRv (fun μ' => (∀ k, k < g.1.length → mDist (fun k e => gTo g (12 * (k + 1) + e)) K G k (μ' 20 (k + 1))) ∧ ∀ q, q ≠ 20 → q ≠ 25 → μ' q = μ q))) false 0 μ1 4 [some (zp 15), some (zi (w : Int)), some (zi ((k + 1 : Nat) : Int)), none] [] := by
    intro d
    induction d using Nat.strongRecOn with
    | _ d ih4 =>
      intro k w μ1 hd hI
      have hq := hI.2.2.2.2
      have hw : w ≤ k := by have := hI.1; omega
      refine zU_iload_n d_G_measure_4 rfl ?_
      refine zU_aload_n d_G_measure_5 rfl ?_
      refine zU_getI (v := (g.1.length : Int)) d_G_measure_6 f_G_43 (by decide) rfl rfl (by rw [hq 15 (by decide) (by decide)]; exact hG.1.1) ?_
      refine zU_icmp_gt 71 d_G_measure_9 (by decide) (by omega) (by omega) (fun h9 => ?_) (fun h9 => ?_)
      · refine zU_iconst d_G_measure_71 ?_
        refine zU_istore_n d_G_measure_72 (by decide) ?_
        refine zU.eqL (L' := [some (zp 15), some (zi (w : Int)), some (zi 0), none]) rfl ?_
        have hJ73 : ∀ (d : Nat) (i w : Nat) (μ1 : zM), i + d = g.1.length → mP g K G μ1 w → i ≤ w → (i < w → ∀ k, k < g.1.length → 0 ≤ μ1 20 (k + 1) → μ1 20 (k + 1) ≤ μ1 20 (μ1 25 i).toNat + 1) → mDone g K μ1 i → (∀ q, q ≠ 20 → q ≠ 25 → μ1 q = μ q) → zU Γ b_G_measure n_G 4 none [] (zRm 1 0 26) 0 0 (zFin Γ 0 false (zRv (fun μ' => (∀ k, k < g.1.length → mDist (fun k e => gTo g (12 * (k + 1) + e)) K G k (μ' 20 (k + 1))) ∧ ∀ q, q ≠ 20 → q ≠ 25 → μ' q = μ q))) false 0 μ1 73 [some (zp 15), some (zi (w : Int)), some (zi (i : Int)), none] [] := by
          intro d
          induction d using Nat.strongRecOn with
          | _ d ih73 =>
            intro i w μ1 hd hP hiw hbn hdn hq
            have hw := mP_w hP
            refine zU_iload_n d_G_measure_73 rfl ?_
            refine zU_iload_n d_G_measure_74 rfl ?_
            refine zU_icmp_ge 103 d_G_measure_75 (by decide) (by omega) (by omega) (fun h75 => ?_) (fun h75 => ?_)
            · exact zU_return d_G_measure_103 rfl (by decide) (by decide) (⟨rfl, mP_done hP hn (fun k e hk he => (gTo_eq hG (by omega) (by omega)).2) (fun j hj p e hp hKp he ht => hdn j (by omega) p e hp hKp he ht), hq⟩)
            · refine zU_iload_n d_G_measure_78 rfl ?_
              refine zU_sipush d_G_measure_79 (by decide) ?_
              refine zU_icmp_ge 103 d_G_measure_82 (by decide) (by omega) (by omega) (fun h82 => ?_) (fun h82 => ?_)
              · exfalso; omega
              · obtain ⟨u, hu, hqi, hu0⟩ := hP.2.1 i (by omega)
                have hG1 : gRep g μ1 := gRep_congr hG (fun q h => hq q (by omega) (by omega))
                have hbu := hbn (by omega)
                rw [hqi, Int.toNat_natCast] at hbu
                refine zU_aload_n d_G_measure_85 rfl ?_
                refine zU_aload_n d_G_measure_86 rfl ?_
                refine zU_getR 25 d_G_measure_87 f_G_40 (by decide) rfl rfl rfl ?_
                refine zU_iload_n d_G_measure_90 rfl ?_
                refine zU_iald (v := ((u + 1 : Nat) : Int)) d_G_measure_91 (by decide) rfl (by decide) (by omega) (hqi) ?_
                refine zU_iload_n d_G_measure_92 rfl ?_
                refine zU_callVi (p0 := 15) [zi (((u + 1 : Nat) : Int)), zi (w : Int)] d_G_measure_93 k_G_51 rfl (by decide) rfl rfl (by decide) (Nat.le_of_ble_eq_true rfl) (fun l => m_G_measureInto l μ1 (G := G) hG1 (fun k hk => by rw [hq 19 (by decide) (by decide)]; exact hK k hk) hn hES hP hu hu0 hbu) (fun r93 μ93 h93 => ?_)
                obtain ⟨w1, hr93, hP93, he93, hb93, hd93⟩ := h93
                subst hr93
                refine zU_istore_n d_G_measure_96 (by decide) ?_
                refine zU.eqL (L' := [some (zp 15), some (zi ((w1 : Int))), some (zi (i : Int)), none]) rfl ?_
                refine zU_iinc d_G_measure_97 rfl ?_
                refine zU.eqL (L' := [some (zp 15), some (zi ((w1 : Int))), some (zi (((i + 1 : Nat) : Int))), none]) (by first | rfl | (show _ = _; simp only [List.set]; congr 3; omega)) ?_
                refine zU_goto 73 d_G_measure_100 (by decide) ?_
                exact ih73 (d - 1) (by omega) (i + 1) w1 μ93 (by omega) hP93 (by have := he93.2.2.1; omega) (fun hw1 k hk hk0 => by have h9 := hb93 k hk hk0; have h8 := hP93.2.2.2.2.1 i (i + 1) (by omega) hw1; rw [he93.2.1 i (by omega), hqi, Int.toNat_natCast, he93.1 u hu hu0] at h8; omega) (mDone_step hdn hP (by omega) hqi hu hu0 he93 hb93 hd93) (fun q q1 q2 => by rw [he93.2.2.2 q q1 q2]; exact hq q q1 q2)
        exact hJ73 g.1.length 0 w μ1 (by omega) (by have hkn : k = g.1.length := (by omega); subst hkn; exact mIni_end hI) (by omega) (fun hw0 k' hk' hk0 => by have hkn : k = g.1.length := (by omega); subst hkn; have hP := mIni_end hI; obtain ⟨j, g1, g2⟩ := hP.2.2.1 k' hk' hk0; obtain ⟨k2, q1, q2, q3⟩ := hI.2.2.1 j g1; have : k' = k2 := (by omega); subst this; rw [hI.2.1 k' q1, if_pos q3]; obtain ⟨k3, p1, p2, p3⟩ := hI.2.2.1 0 hw0; rw [p2, Int.toNat_natCast, hI.2.1 k3 p1, if_pos p3]; omega) (fun j hj => absurd hj (by omega)) hI.2.2.2.2
      · refine zU_aload_n d_G_measure_12 rfl ?_
        refine zU_getR 19 d_G_measure_13 f_G_22 (by decide) rfl rfl rfl ?_
        refine zU_iload_n d_G_measure_16 rfl ?_
        refine zU_zald (v := zB (K k)) d_G_measure_17 (by decide) rfl (by decide) (by omega) (by rw [hq 19 (by decide) (by decide)]; exact hK k (by omega)) ?_
        have hJ35 : zU Γ b_G_measure n_G 4 none [] (zRm 1 0 26) 0 0 (zFin Γ 0 false (zRv (fun μ' => (∀ k, k < g.1.length → mDist (fun k e => gTo g (12 * (k + 1) + e)) K G k (μ' 20 (k + 1))) ∧ ∀ q, q ≠ 20 → q ≠ 25 → μ' q = μ q))) false 0 μ1 35 [some (zp 15), some (zi (w : Int)), some (zi ((k + 1 : Nat) : Int)), none] [zi (zB (K k && G k))] := by
          refine zU_istore_n d_G_measure_35 (by decide) ?_
          refine zU.eqL (L' := [some (zp 15), some (zi (w : Int)), some (zi ((k + 1 : Nat) : Int)), some (zi (zB (K k && G k)))]) rfl ?_
          refine zU_aload_n d_G_measure_36 rfl ?_
          refine zU_getR 20 d_G_measure_37 f_G_25 (by decide) rfl rfl rfl ?_
          refine zU_iload_n d_G_measure_40 rfl ?_
          refine zU_iload_n d_G_measure_41 rfl ?_
          refine zU_if_eq 49 d_G_measure_42 (by decide) (zBr _) (fun h42 => ?_) (fun h42 => ?_)
          · refine zU_iconst d_G_measure_49 ?_
            refine zU_iast d_G_measure_50 (by decide) rfl (by decide) (by omega) ?_
            refine zU.eqM (μ' := zup μ1 20 (k + 1) (-1)) rfl ?_
            refine zU_iload_n d_G_measure_51 rfl ?_
            refine zU_if_eq 65 d_G_measure_52 (by decide) (zBr _) (fun h52 => ?_) (fun h52 => ?_)
            · refine zU_iinc d_G_measure_65 rfl ?_
              refine zU.eqL (L' := [some (zp 15), some (zi (w : Int)), some (zi (((k + 1 + 1 : Nat) : Int))), some (zi (zB (K k && G k)))]) (by first | rfl | (show _ = _; simp only [List.set]; congr 3; omega)) ?_
              refine zU_goto 4 d_G_measure_68 (by decide) ?_
              refine zU.drop 3 (L' := [some (zp 15), some (zi (w : Int)), some (zi (((k + 1 + 1 : Nat) : Int))), none]) rfl ?_
              exact ih4 (d - 1) (by omega) (k + 1) w _ (by omega) (mIni_no hI (zB_zero.mp h42))
            · exact absurd h42 h52
          · refine zU_iconst d_G_measure_45 ?_
            refine zU_goto 50 d_G_measure_46 (by decide) ?_
            refine zU_iast d_G_measure_50 (by decide) rfl (by decide) (by omega) ?_
            refine zU.eqM (μ' := zup μ1 20 (k + 1) 0) rfl ?_
            refine zU_iload_n d_G_measure_51 rfl ?_
            refine zU_if_eq 65 d_G_measure_52 (by decide) (zBr _) (fun h52 => ?_) (fun h52 => ?_)
            · exact absurd h52 h42
            · refine zU_aload_n d_G_measure_55 rfl ?_
              refine zU_getR 25 d_G_measure_56 f_G_40 (by decide) rfl rfl rfl ?_
              refine zU_iload_n d_G_measure_59 rfl ?_
              refine zU_iload_n d_G_measure_60 rfl ?_
              refine zU_iast d_G_measure_61 (by decide) rfl (by decide) (by omega) ?_
              refine zU.eqM (μ' := zup (zup μ1 20 (k + 1) 0) 25 w ((k + 1 : Nat) : Int)) rfl ?_
              refine zU_iinc d_G_measure_62 rfl ?_
              refine zU.eqL (L' := [some (zp 15), some (zi (((w + 1 : Nat) : Int))), some (zi ((k + 1 : Nat) : Int)), some (zi (zB (K k && G k)))]) (by first | rfl | (show _ = _; simp only [List.set]; congr 3; omega)) ?_
              refine zU_iinc d_G_measure_65 rfl ?_
              refine zU.eqL (L' := [some (zp 15), some (zi (((w + 1 : Nat) : Int))), some (zi (((k + 1 + 1 : Nat) : Int))), some (zi (zB (K k && G k)))]) (by first | rfl | (show _ = _; simp only [List.set]; congr 3; omega)) ?_
              refine zU_goto 4 d_G_measure_68 (by decide) ?_
              refine zU.drop 3 (L' := [some (zp 15), some (zi (((w + 1 : Nat) : Int))), some (zi (((k + 1 + 1 : Nat) : Int))), none]) rfl ?_
              exact ih4 (d - 1) (by omega) (k + 1) (w + 1) _ (by omega) (mIni_yes hI (zB_nz.mp h42))
        refine zU_if_eq 34 d_G_measure_18 (by decide) (zBr _) (fun h18 => ?_) (fun h18 => ?_)
        · refine zU_iconst d_G_measure_34 ?_
          refine zU.eqS (st' := [zi (zB (K k && G k))]) (by rw [zB_zero.mp h18]; rfl) ?_
          exact hJ35 
        · refine zU_aload_n d_G_measure_21 rfl ?_
          refine zU_getR 18 d_G_measure_22 f_G_18 (by decide) rfl rfl rfl ?_
          refine zU_iload_n d_G_measure_25 rfl ?_
          refine zU_zald (v := zB (G k)) d_G_measure_26 (by decide) rfl (by decide) (by omega) (by rw [hq 18 (by decide) (by decide)]; exact hM k (by omega)) ?_
          refine zU_if_eq 34 d_G_measure_27 (by decide) (zBr _) (fun h27 => ?_) (fun h27 => ?_)
          · refine zU_iconst d_G_measure_34 ?_
            refine zU.eqS (st' := [zi (zB (K k && G k))]) (by rw [zB_zero.mp h27, Bool.and_false]; rfl) ?_
            exact hJ35 
          · refine zU_iconst d_G_measure_30 ?_
            refine zU_goto 35 d_G_measure_31 (by decide) ?_
            refine zU.eqS (st' := [zi (zB (K k && G k))]) (by rw [zB_nz.mp h18, zB_nz.mp h27]; rfl) ?_
            exact hJ35 
  refine zU.loose ?_
  exact hJ4 g.1.length 0 0 μ (by omega) ⟨rfl, fun j hj => absurd hj (by omega), fun j hj => absurd hj (by omega), fun j hj => absurd hj (by omega), fun _ _ _ => rfl⟩
set_option maxRecDepth 100000 in
set_option maxHeartbeats 4000000 in
theorem m_G_dropDeadEnds (l : Launch) (μ : zM) {g : gT} {K : Nat → Bool} (hG : gRep g μ) (hK : ∀ k, k < g.1.length → μ 19 (k + 1) = zB (K k)) (hn : g.1.length ≤ 200) (hD : ∀ k, k < g.1.length → -2147483648 ≤ μ 20 (k + 1) ∧ μ 20 (k + 1) ≤ 2147483647) :
    zC l y_G_dropDeadEnds b_G_dropDeadEnds 3 (some .boolean) [] 0 0 0 false [zp 15] μ (zRi (fun r μ' => r = zB ((List.range g.1.length).any (fun k => K k && decide (μ 20 (k + 1) = -1))) ∧ (∀ k, k < g.1.length → μ' 19 (k + 1) = zB (K k && !decide (μ 20 (k + 1) = -1))) ∧ ∀ q, q ≠ 19 → μ' q = μ q)) := by
  refine zC.of (own := n_G) (L := [some (zp 15), none, none]) (by decide) rfl (by simp [zcat]) (Nat.le_of_ble_eq_true rfl) rfl (fun Γ => ?_)
  refine zU_iconst d_G_dropDeadEnds_0 ?_
  refine zU_istore_n d_G_dropDeadEnds_1 (by decide) ?_
  refine zU.eqL (L' := [some (zp 15), some (zi 0), none]) rfl ?_
  refine zU_iconst d_G_dropDeadEnds_2 ?_
  refine zU_istore_n d_G_dropDeadEnds_3 (by decide) ?_
  refine zU.eqL (L' := [some (zp 15), some (zi 0), some (zi 1)]) rfl ?_
  have hJ4 : ∀ (d : Nat) (k : Nat) (x : Int) (μ1 : zM), k + d = g.1.length → x = zB ((List.range k).any (fun k => K k && decide (μ 20 (k + 1) = -1))) → (∀ j, j < g.1.length → μ1 19 (j + 1) = zB (K j && !(decide (j < k) && decide (μ 20 (j + 1) = -1)))) → (∀ q, q ≠ 19 → μ1 q = μ q) → zU Γ b_G_dropDeadEnds n_G 3 (some .boolean) [] (zRm 0 0 0) 0 0 (zFin Γ 0 false (zRi (fun r μ' => r = zB ((List.range g.1.length).any (fun k => K k && decide (μ 20 (k + 1) = -1))) ∧ (∀ k, k < g.1.length → μ' 19 (k + 1) = zB (K k && !decide (μ 20 (k + 1) = -1))) ∧ ∀ q, q ≠ 19 → μ' q = μ q))) false 0 μ1 4 [some (zp 15), some (zi x), some (zi ((k + 1 : Nat) : Int))] [] := by
    intro d
    induction d using Nat.strongRecOn with
    | _ d ih4 =>
      intro k x μ1 hd hx hk1 hq
      refine zU_iload_n d_G_dropDeadEnds_4 rfl ?_
      refine zU_aload_n d_G_dropDeadEnds_5 rfl ?_
      refine zU_getI (v := (g.1.length : Int)) d_G_dropDeadEnds_6 f_G_43 (by decide) rfl rfl (by rw [hq 15 (by decide)]; exact hG.1.1) ?_
      refine zU_icmp_gt 46 d_G_dropDeadEnds_9 (by decide) (by omega) (by omega) (fun h9 => ?_) (fun h9 => ?_)
      · refine zU_iload_n d_G_dropDeadEnds_46 rfl ?_
        exact zU_ireturn d_G_dropDeadEnds_47 (Or.inr ⟨rfl, by rw [hx]; exact zB_or _⟩) (by decide) (by decide) (⟨_, rfl, by have hkn : k = g.1.length := (by omega); subst hkn; exact ⟨hx, fun j hj => by rw [hk1 j hj]; simp [hj], hq⟩⟩)
      · refine zU_aload_n d_G_dropDeadEnds_12 rfl ?_
        refine zU_getR 19 d_G_dropDeadEnds_13 f_G_22 (by decide) rfl rfl rfl ?_
        refine zU_iload_n d_G_dropDeadEnds_16 rfl ?_
        refine zU_zald (v := zB (K k)) d_G_dropDeadEnds_17 (by decide) rfl (by decide) (by omega) ((hk1 k (by omega)).trans (by simp)) ?_
        refine zU_if_eq 40 d_G_dropDeadEnds_18 (by decide) (zBr _) (fun h18 => ?_) (fun h18 => ?_)
        · refine zU_iinc d_G_dropDeadEnds_40 rfl ?_
          refine zU.eqL (L' := [some (zp 15), some (zi x), some (zi (((k + 1 + 1 : Nat) : Int)))]) (by first | rfl | (show _ = _; simp only [List.set]; congr 3; omega)) ?_
          refine zU_goto 4 d_G_dropDeadEnds_43 (by decide) ?_
          exact ih4 (d - 1) (by omega) (k + 1) x μ1 (by omega) (by rw [hx, rng_any, zB_zero.mp h18]; simp) (fun j hj => by rw [hk1 j hj]; by_cases h : j = k; { subst h; simp [zB_zero.mp h18] }; { have : (j < k + 1) ↔ (j < k) := (by omega); simp [this] }) hq
        · refine zU_aload_n d_G_dropDeadEnds_21 rfl ?_
          refine zU_getR 20 d_G_dropDeadEnds_22 f_G_25 (by decide) rfl rfl rfl ?_
          refine zU_iload_n d_G_dropDeadEnds_25 rfl ?_
          refine zU_iald (v := μ 20 (k + 1)) d_G_dropDeadEnds_26 (by decide) rfl (by decide) (by omega) (by rw [hq 20 (by decide)]; rfl) ?_
          refine zU_iconst d_G_dropDeadEnds_27 ?_
          refine zU_icmp_ne 40 d_G_dropDeadEnds_28 (by decide) (by first | omega | exact hD k (by omega)) (by first | omega | exact hD k (by omega)) (fun h28 => ?_) (fun h28 => ?_)
          · refine zU_iinc d_G_dropDeadEnds_40 rfl ?_
            refine zU.eqL (L' := [some (zp 15), some (zi x), some (zi (((k + 1 + 1 : Nat) : Int)))]) (by first | rfl | (show _ = _; simp only [List.set]; congr 3; omega)) ?_
            refine zU_goto 4 d_G_dropDeadEnds_43 (by decide) ?_
            exact ih4 (d - 1) (by omega) (k + 1) x μ1 (by omega) (by rw [hx, rng_any]; simp [h28]) (fun j hj => by rw [hk1 j hj]; by_cases h : j = k; { subst h; simp [h28] }; { have : (j < k + 1) ↔ (j < k) := (by omega); simp [this] }) hq
          · refine zU_aload_n d_G_dropDeadEnds_31 rfl ?_
            refine zU_getR 19 d_G_dropDeadEnds_32 f_G_22 (by decide) rfl rfl rfl ?_
            refine zU_iload_n d_G_dropDeadEnds_35 rfl ?_
            refine zU_iconst d_G_dropDeadEnds_36 ?_
            refine zU_zast d_G_dropDeadEnds_37 (by decide) rfl (by decide) (by omega) (by omega) ?_
            refine zU.eqM (μ' := zup μ1 19 (k + 1) 0) rfl ?_
            refine zU_iconst d_G_dropDeadEnds_38 ?_
            refine zU_istore_n d_G_dropDeadEnds_39 (by decide) ?_
            refine zU.eqL (L' := [some (zp 15), some (zi 1), some (zi ((k + 1 : Nat) : Int))]) rfl ?_
            refine zU_iinc d_G_dropDeadEnds_40 rfl ?_
            refine zU.eqL (L' := [some (zp 15), some (zi 1), some (zi (((k + 1 + 1 : Nat) : Int)))]) (by first | rfl | (show _ = _; simp only [List.set]; congr 3; omega)) ?_
            refine zU_goto 4 d_G_dropDeadEnds_43 (by decide) ?_
            exact ih4 (d - 1) (by omega) (k + 1) 1 _ (by omega) (by rw [rng_any, zB_nz.mp h18]; simp [h28, zB]) (fun j hj => by rw [zup_at]; by_cases h : j = k; { subst h; simp [h28, zB] }; { have h2 : (j < k + 1) ↔ (j < k) := (by omega); have h3 : ¬ (j + 1 = k + 1) := (by omega); simp only [h3, and_false, if_false, h2]; exact hk1 j hj }) (fun q q1 => by rw [zup_ne _ _ _ q1]; exact hq q q1)
  refine zU.loose ?_
  exact hJ4 g.1.length 0 0 μ (by omega) rfl (fun j hj => by rw [hK j hj]; simp) (fun _ _ => rfl)
set_option maxRecDepth 100000 in
set_option maxHeartbeats 4000000 in
theorem m_G_countKept (l : Launch) (μ : zM) {g : gT} {K : Nat → Bool} (hG : gRep g μ) (hK : ∀ k, k < g.1.length → μ 19 (k + 1) = zB (K k)) (hn : g.1.length ≤ 200) :
    zC l y_G_countKept b_G_countKept 3 (some .int) [] 0 0 0 true [zp 15] μ (zRi (fun r μ' => μ' = μ ∧ r = (cnt K g.1.length : Int))) := by
  refine zC.of (own := n_G) (L := [some (zp 15), none, none]) (by decide) rfl (by simp [zcat]) (Nat.le_of_ble_eq_true rfl) rfl (fun Γ => ?_)
  refine zU_iconst d_G_countKept_0 ?_
  refine zU_istore_n d_G_countKept_1 (by decide) ?_
  refine zU.eqL (L' := [some (zp 15), some (zi 0), none]) rfl ?_
  refine zU_iconst d_G_countKept_2 ?_
  refine zU_istore_n d_G_countKept_3 (by decide) ?_
  refine zU.eqL (L' := [some (zp 15), some (zi 0), some (zi 1)]) rfl ?_
  have hJ4 : ∀ (d : Nat) (k x : Nat), k + d = g.1.length → x = cnt K k → zU Γ b_G_countKept n_G 3 (some .int) [] (zRm 0 0 0) 0 0 (zFin Γ 0 true (zRi (fun r μ' => μ' = μ ∧ r = (cnt K g.1.length : Int)))) true 0 μ 4 [some (zp 15), some (zi (x : Int)), some (zi ((k + 1 : Nat) : Int))] [] := by
    intro d
    induction d using Nat.strongRecOn with
    | _ d ih4 =>
      intro k x hd hx
      refine zU_iload_n d_G_countKept_4 rfl ?_
      refine zU_aload_n d_G_countKept_5 rfl ?_
      refine zU_getI (v := (g.1.length : Int)) d_G_countKept_6 f_G_43 (by decide) rfl rfl (hG.1.1) ?_
      refine zU_icmp_gt 30 d_G_countKept_9 (by decide) (by omega) (by omega) (fun h9 => ?_) (fun h9 => ?_)
      · refine zU_iload_n d_G_countKept_30 rfl ?_
        exact zU_ireturn d_G_countKept_31 (Or.inl rfl) (by decide) (by decide) (⟨_, rfl, rfl, by have hkn : k = g.1.length := (by omega); subst hkn; rw [hx]⟩)
      · refine zU_aload_n d_G_countKept_12 rfl ?_
        refine zU_getR 19 d_G_countKept_13 f_G_22 (by decide) rfl rfl rfl ?_
        refine zU_iload_n d_G_countKept_16 rfl ?_
        refine zU_zald (v := zB (K k)) d_G_countKept_17 (by decide) rfl (by decide) (by omega) (hK k (by omega)) ?_
        refine zU_if_eq 24 d_G_countKept_18 (by decide) (zBr _) (fun h18 => ?_) (fun h18 => ?_)
        · refine zU_iinc d_G_countKept_24 rfl ?_
          refine zU.eqL (L' := [some (zp 15), some (zi (x : Int)), some (zi (((k + 1 + 1 : Nat) : Int)))]) (by first | rfl | (show _ = _; simp only [List.set]; congr 3; omega)) ?_
          refine zU_goto 4 d_G_countKept_27 (by decide) ?_
          exact ih4 (d - 1) (by omega) (k + 1) x (by omega) (by simp only [cnt, zB_zero.mp h18]; simp; exact hx)
        · refine zU_iinc d_G_countKept_21 rfl ?_
          refine zU.eqL (L' := [some (zp 15), some (zi (((x + 1 : Nat) : Int))), some (zi ((k + 1 : Nat) : Int))]) (by first | rfl | (show _ = _; simp only [List.set]; congr 3; omega)) ?_
          refine zU_iinc d_G_countKept_24 rfl ?_
          refine zU.eqL (L' := [some (zp 15), some (zi (((x + 1 : Nat) : Int))), some (zi (((k + 1 + 1 : Nat) : Int)))]) (by first | rfl | (show _ = _; simp only [List.set]; congr 3; omega)) ?_
          refine zU_goto 4 d_G_countKept_27 (by decide) ?_
          exact ih4 (d - 1) (by omega) (k + 1) (x + 1) (by omega) (by simp only [cnt, zB_nz.mp h18]; simp; exact hx)
  exact hJ4 g.1.length 0 0 (by omega) rfl
end
section
theorem zC.mono {l : Launch} {y : MethodName} {cc : ByteArray} {nL : Nat} {rt : Option FieldType} {hh : List (Nat × Nat × Nat × Nat)} {fr nb lo : Nat} {pb : Bool} {as : List zV} {μ : zM} {Q Q' : zO → zM → Prop}
    (h : zC l y cc nL rt hh fr nb lo pb as μ Q) (hQ : ∀ o μ', Q o μ' → Q' o μ') : zC l y cc nL rt hh fr nb lo pb as μ Q' := by
  intro htr D cA ad p e h1 h2 h3 s m args below h4 h5 h6 h7
  obtain ⟨n, o, g1, g2, g3, ⟨g4, g5, po, μ', g6, g7, g8⟩, g9⟩ := h htr D cA ad p e h1 h2 h3 s m args below h4 h5 h6 h7
  exact ⟨n, o, g1, g2, g3, ⟨g4, g5, po, μ', g6, g7, hQ _ _ g8⟩, g9⟩
abbrev gtg (g : gT) : Nat → Nat → Nat := fun k e => gTo g (12 * (k + 1) + e)
/-- the number of the kept node to which e leads from k, or 0 -/
def ktg (tg : Nat → Nat → Nat) (K : Nat → Bool) (k e : Nat) : Nat := if tg k e ≠ 0 ∧ K (tg k e - 1) = true then tg k e else 0
set_option maxRecDepth 100000 in
set_option maxHeartbeats 4000000 in
theorem m_G_ktl (l : Launch) (μ : zM) {k e : Nat} (hk : 1 ≤ k ∧ k ≤ 200) (he : e < 12) (ht : 0 ≤ μ 22 (12 * k + e) ∧ μ 22 (12 * k + e) ≤ 200) (hb : ¬ μ 22 (12 * k + e) = 0 → μ 19 (μ 22 (12 * k + e)).toNat = 0 ∨ μ 19 (μ 22 (12 * k + e)).toNat = 1) :
    zC l y_G_keptTarget b_G_keptTarget 4 (some .int) [] 0 0 0 true [zp 15, zi (k : Int), zi (e : Int)] μ (zRi (fun r μ' => μ' = μ ∧ r = if ¬ μ 22 (12 * k + e) = 0 ∧ μ 19 (μ 22 (12 * k + e)).toNat = 1 then μ 22 (12 * k + e) else 0)) := by
  refine zC.of (own := n_G) (L := [some (zp 15), some (zi (k : Int)), some (zi (e : Int)), none]) (by decide) rfl (by simp [zcat]) (Nat.le_of_ble_eq_true rfl) rfl (fun Γ => ?_)
  refine zU_aload_n d_G_keptTarget_0 rfl ?_
  refine zU_getR 22 d_G_keptTarget_1 f_G_31 (by decide) rfl rfl rfl ?_
  refine zU_iload_n d_G_keptTarget_4 rfl ?_
  refine zU_bipush d_G_keptTarget_5 (by decide) ?_
  refine zU_imul d_G_keptTarget_7 ?_
  refine zU_iload_n d_G_keptTarget_8 rfl ?_
  refine zU_iadd d_G_keptTarget_9 ?_
  refine zU_iald (v := μ 22 (12 * k + e)) d_G_keptTarget_10 (by decide) rfl (by decide) (by omega) (by congr 1; omega) ?_
  refine zU_istore_n d_G_keptTarget_11 (by decide) ?_
  refine zU.eqL (L' := [some (zp 15), some (zi (k : Int)), some (zi (e : Int)), some (zi (μ 22 (12 * k + e)))]) rfl ?_
  refine zU_iload_n d_G_keptTarget_12 rfl ?_
  refine zU_if_eq 29 d_G_keptTarget_13 (by decide) (by omega) (fun h13 => ?_) (fun h13 => ?_)
  · refine zU_iconst d_G_keptTarget_29 ?_
    exact zU_ireturn d_G_keptTarget_30 (Or.inl rfl) (by decide) (by decide) (⟨_, rfl, rfl, by rw [if_neg (fun h => h.1 h13)]⟩)
  · have hb9 := hb h13
    refine zU_aload_n d_G_keptTarget_16 rfl ?_
    refine zU_getR 19 d_G_keptTarget_17 f_G_22 (by decide) rfl rfl rfl ?_
    refine zU_iload_n d_G_keptTarget_20 rfl ?_
    refine zU_zald (v := μ 19 ((μ 22 (12 * k + e))).toNat) d_G_keptTarget_21 (by decide) rfl (by decide) (by omega) (rfl) ?_
    refine zU_if_eq 29 d_G_keptTarget_22 (by decide) (by omega) (fun h22 => ?_) (fun h22 => ?_)
    · refine zU_iconst d_G_keptTarget_29 ?_
      exact zU_ireturn d_G_keptTarget_30 (Or.inl rfl) (by decide) (by decide) (⟨_, rfl, rfl, by rw [if_neg (fun h => by omega)]⟩)
    · refine zU_iload_n d_G_keptTarget_25 rfl ?_
      refine zU_goto 30 d_G_keptTarget_26 (by decide) ?_
      exact zU_ireturn d_G_keptTarget_30 (Or.inl rfl) (by decide) (by decide) (⟨_, rfl, rfl, by rw [if_pos ⟨h13, by omega⟩]⟩)
theorem m_G_kt (l : Launch) (μ : zM) {g : gT} {K : Nat → Bool} (hG : gRep g μ) (hK : ∀ k, k < g.1.length → μ 19 (k + 1) = zB (K k)) {k e : Nat} (hk : k < g.1.length) (he : e < 12) :
    zC l y_G_keptTarget b_G_keptTarget 4 (some .int) [] 0 0 0 true [zp 15, zi ((k + 1 : Nat) : Int), zi (e : Int)] μ (zRi (fun r μ' => μ' = μ ∧ r = ((ktg (gtg g) K k e : Nat) : Int))) := by
  have hn := hG.1.2.1
  have ht := gTo_eq hG (x := 12 * (k + 1) + e) (by omega) (by omega)
  have hz : ∀ j, j < g.1.length → μ 19 (j + 1) = 0 ∨ μ 19 (j + 1) = 1 := fun j hj => by rw [hK j hj]; exact zB_or _
  have key : ∀ j, ¬ (0 ≤ μ 22 (12 * (k + 1) + e) ∧ μ 22 (12 * (k + 1) + e) ≤ 200) → False := fun j h => h (by rw [ht.1]; omega)
  refine zC.mono (m_G_ktl l μ (k := k + 1) (e := e) ⟨by omega, by omega⟩ he (by rw [ht.1]; omega) (fun h0 => by
    have h1 : (μ 22 (12 * (k + 1) + e)).toNat = gTo g (12 * (k + 1) + e) - 1 + 1 := by rw [ht.1]; rw [ht.1] at h0; omega
    rw [h1]
    exact hz _ (by rw [ht.1] at h0; omega))) (fun o μ' h => ?_)
  obtain ⟨r, h1, h2, h3⟩ := h
  refine ⟨r, h1, h2, ?_⟩
  rw [h3, ht.1]
  unfold ktg gtg
  by_cases h0 : gTo g (12 * (k + 1) + e) = 0
  · rw [if_neg (fun h => h.1 (by rw [h0]; rfl)), if_neg (fun h => h.1 h0)]
    rfl
  · have e1 : ((gTo g (12 * (k + 1) + e) : Nat) : Int).toNat = gTo g (12 * (k + 1) + e) - 1 + 1 := by omega
    have e2 : μ 19 ((gTo g (12 * (k + 1) + e) : Nat) : Int).toNat = zB (K (gTo g (12 * (k + 1) + e) - 1)) := by rw [e1]; exact hK _ (by omega)
    rw [e2]
    by_cases hKt : K (gTo g (12 * (k + 1) + e) - 1) = true
    · rw [if_pos ⟨by omega, zB_one.mpr hKt⟩, if_pos ⟨h0, hKt⟩]
    · rw [if_neg (fun h => hKt (zB_one.mp h.2)), if_neg (fun h => hKt h.2)]
      rfl
/-! the good nodes -/
def gPost (n : Nat) (tg : Nat → Nat → Nat) (U : Nat → Nat → Bool) (C B G Z : Nat → Bool) : Prop := (∀ k, k < n → Z k = true → B k = true) ∧ (∀ k, k < n → Z k = true → ∀ e, e < 12 → U k e = true → C e = false → ktg tg Z k e ≠ 0) ∧ ∀ k, k < n → Z k = true → ∃ d, rch tg Z G d k = true
/-- the plants may do there what can't be forbidden and leads to no kept node -/
def unr (tg : Nat → Nat → Nat) (U : Nat → Nat → Bool) (C K : Nat → Bool) (k : Nat) : Bool := (List.range 12).any (fun e => (U k e && !C e) && decide (ktg tg K k e = 0))
theorem ktg_mono {n : Nat} {tg : Nat → Nat → Nat} {Z K : Nat → Bool} (hZ : ∀ k, k < n → Z k = true → K k = true) {k e : Nat} (ht : tg k e ≤ n) (h : ktg tg Z k e ≠ 0) : ktg tg K k e ≠ 0 := by
  unfold ktg at *
  by_cases hc : tg k e ≠ 0 ∧ Z (tg k e - 1) = true
  · rw [if_pos ⟨hc.1, hZ _ (by have := hc.1; omega) hc.2⟩]
    exact hc.1
  · rw [if_neg hc] at h
    exact absurd rfl h
theorem rch_mono {n : Nat} {tg : Nat → Nat → Nat} {Z K G : Nat → Bool} (hZ : ∀ k, k < n → Z k = true → K k = true) (ht : ∀ k e, k < n → e < 12 → tg k e ≤ n) : ∀ d k, k < n → rch tg Z G d k = true → rch tg K G d k = true
  | 0, k, hk, h => by
    simp only [rch, Bool.and_eq_true] at h ⊢
    exact ⟨hZ k hk h.1, h.2⟩
  | d + 1, k, hk, h => by
    simp only [rch, Bool.or_eq_true, Bool.and_eq_true] at h ⊢
    rcases h with h | ⟨h1, h2⟩
    · exact Or.inl (rch_mono hZ ht d k hk h)
    · obtain ⟨e, he, h3⟩ := any_iff.mp h2
      simp only [Bool.and_eq_true, decide_eq_true_eq] at h3
      refine Or.inr ⟨hZ k hk h1, any_iff.mpr ⟨e, he, ?_⟩⟩
      simp only [Bool.and_eq_true, decide_eq_true_eq]
      have := ht k e hk he
      exact ⟨h3.1, rch_mono hZ ht d _ (by have := h3.1; omega) h3.2⟩
theorem unr_out {n : Nat} {tg : Nat → Nat → Nat} {U : Nat → Nat → Bool} {C B G Z K : Nat → Bool} (hP : gPost n tg U C B G Z) (hZ : ∀ k, k < n → Z k = true → K k = true) (ht : ∀ k e, k < n → e < 12 → tg k e ≤ n) {k : Nat} (hk : k < n) (hu : unr tg U C K k = true) : Z k = false := by
  cases h : Z k
  · rfl
  · obtain ⟨e, he, h1⟩ := any_iff.mp hu
    simp only [Bool.and_eq_true, decide_eq_true_eq, Bool.not_eq_true'] at h1
    exact absurd h1.2 (ktg_mono hZ (ht k e hk he) (hP.2.1 k hk h e he h1.1.1 h1.1.2))
/-- the greatest such set, as far as it has been cut out -/
def gAbove (n : Nat) (tg : Nat → Nat → Nat) (U : Nat → Nat → Bool) (C B G K : Nat → Bool) : Prop := (∀ k, k < n → K k = true → B k = true) ∧ ∀ Z, gPost n tg U C B G Z → ∀ k, k < n → Z k = true → K k = true
theorem gAbove_cut {n : Nat} {tg : Nat → Nat → Nat} {U : Nat → Nat → Bool} {C B G K K' : Nat → Bool} (h : gAbove n tg U C B G K) (hs : ∀ k, k < n → K' k = true → K k = true) (hc : ∀ Z, gPost n tg U C B G Z → ∀ k, k < n → Z k = true → K k = true → K' k = true) : gAbove n tg U C B G K' :=
  ⟨fun k hk hk' => h.1 k hk (hs k hk hk'), fun Z hZ k hk hz => hc Z hZ k hk hz (h.2 Z hZ k hk hz)⟩
theorem mDist_r {tg : Nat → Nat → Nat} {K G : Nat → Bool} {k : Nat} {v : Int} (h : mDist tg K G k v) : -1 ≤ v ∧ v ≤ 200 := by
  rcases h with ⟨h, -⟩ | ⟨d, h, h2, -⟩ <;> omega
theorem mDist_dead {tg : Nat → Nat → Nat} {K G : Nat → Bool} {k : Nat} {v : Int} (h : mDist tg K G k v) : v = -1 ↔ ∀ d, rch tg K G d k = false := by
  rcases h with ⟨h, h2⟩ | ⟨d, h, h2, h3, h4⟩
  · exact ⟨fun _ => h2, fun _ => h⟩
  · exact ⟨fun h5 => by omega, fun h5 => by rw [h5 d] at h3; cases h3⟩
theorem cnt_mono {f g : Nat → Bool} : ∀ n, (∀ k, k < n → f k = true → g k = true) → cnt f n ≤ cnt g n
  | 0, _ => Nat.le_refl _
  | n + 1, h => by
    have ih := cnt_mono n (fun k hk => h k (by omega))
    unfold cnt
    by_cases hf : f n = true
    · rw [if_pos hf, if_pos (h n (by omega) hf)]
      omega
    · rw [if_neg hf]
      split <;> omega
theorem cnt_less {f g : Nat → Bool} : ∀ n, (∀ k, k < n → f k = true → g k = true) → (∃ k, k < n ∧ f k = false ∧ g k = true) → cnt f n < cnt g n
  | 0, _, ⟨k, hk, _⟩ => absurd hk (by omega)
  | n + 1, h, ⟨k, hk, h1, h2⟩ => by
    have hm := cnt_mono n (fun k hk => h k (by omega))
    unfold cnt
    by_cases hkn : k = n
    · subst hkn
      rw [h1, h2]
      simp
      omega
    · have := cnt_less n (fun k hk => h k (by omega)) ⟨k, by omega, h1, h2⟩
      by_cases hf : f n = true
      · rw [if_pos hf, if_pos (h n (by omega) hf)]
        omega
      · rw [if_neg hf]
        split <;> omega
theorem ktg_le {g : gT} {μ : zM} {K : Nat → Bool} (hG : gRep g μ) {k e : Nat} (hk : k < g.1.length) (he : e < 12) : ktg (gtg g) K k e ≤ g.1.length := by
  unfold ktg gtg
  split
  · exact (gTo_eq hG (by omega) (by omega)).2
  · omega
theorem dU0 {n k j : Nat} {x : Int} {K K1 : Nat → Bool} {f : Nat → Bool} (hx : (x = 0 ∧ (∀ j, K1 j = K j) ∧ ∀ i, k ≤ i → i < n → K i = true → f i = false) ∨ (x = 1 ∧ ∃ j, j < n ∧ K1 j = false ∧ K j = true)) (hk : k = j + 1) (h : K1 j = true → False) :
    (x = 0 ∧ (∀ j, K1 j = K j) ∧ ∀ i, j ≤ i → i < n → K i = true → f i = false) ∨ (x = 1 ∧ ∃ j, j < n ∧ K1 j = false ∧ K j = true) := by
  rcases hx with ⟨h1, h2, h3⟩ | h1
  · refine Or.inl ⟨h1, h2, fun i hi hin hKi => ?_⟩
    by_cases hij : i = j
    · subst hij
      exact absurd (by rw [h2]; exact hKi) h
    · exact h3 i (by omega) hin hKi
  · exact Or.inr h1
theorem dU1 {n k j : Nat} {x : Int} {tg : Nat → Nat → Nat} {U : Nat → Nat → Bool} {C K K1 : Nat → Bool} (hx : (x = 0 ∧ (∀ j, K1 j = K j) ∧ ∀ i, k ≤ i → i < n → K i = true → unr tg U C K i = false) ∨ (x = 1 ∧ ∃ j, j < n ∧ K1 j = false ∧ K j = true)) (hk : k = j + 1) (h : unr tg U C K1 j = false) :
    (x = 0 ∧ (∀ j, K1 j = K j) ∧ ∀ i, j ≤ i → i < n → K i = true → unr tg U C K i = false) ∨ (x = 1 ∧ ∃ j, j < n ∧ K1 j = false ∧ K j = true) := by
  rcases hx with ⟨h1, h2, h3⟩ | h1
  · refine Or.inl ⟨h1, h2, fun i hi hin hKi => ?_⟩
    by_cases hij : i = j
    · subst hij
      have : K1 = K := funext h2
      rw [← this]
      exact h
    · exact h3 i (by omega) hin hKi
  · exact Or.inr h1
set_option maxRecDepth 100000 in
set_option maxHeartbeats 4000000 in
theorem m_Y_isUnruly (l : Launch) (μ : zM) {g : gT} {K : Nat → Bool} {U : Nat → Nat → Bool} {C : Nat → Bool} (hG : gRep g μ) (hK : ∀ k, k < g.1.length → μ 19 (k + 1) = zB (K k)) (hU : ∀ k, k < g.1.length → zmask 12 (μ 27 (k + 1)) (U k)) (hC : zmask 12 (μ 1 3) C) {k : Nat} (hk : k < g.1.length) :
    zC l y_Y_isUnruly b_Y_isUnruly 4 (some .boolean) [] 1 0 23 true [zp 26, zi ((k + 1 : Nat) : Int)] μ (zRi (fun r μ' => μ' = μ ∧ r = zB (unr (gtg g) U C K k))) := by
  refine zC.of (own := n_Y) (L := [some (zp 26), some (zi ((k + 1 : Nat) : Int)), none, none]) (by decide) rfl (by simp [zcat]) (Nat.le_of_ble_eq_true rfl) rfl (fun Γ => ?_)
  have hn := hG.1.2.1
  refine zU_aload_n d_Y_isUnruly_0 rfl ?_
  refine zU_getR 27 d_Y_isUnruly_1 f_Y_9 (by decide) rfl rfl rfl ?_
  refine zU_iload_n d_Y_isUnruly_4 rfl ?_
  refine zU_iald (v := μ 27 (k + 1)) d_Y_isUnruly_5 (by decide) rfl (by decide) (by omega) (rfl) ?_
  refine zU_aload_n d_Y_isUnruly_6 rfl ?_
  refine zU_getR 1 d_Y_isUnruly_7 f_Y_21 (by decide) rfl rfl rfl ?_
  refine zU_getI (v := μ 1 3) d_Y_isUnruly_10 f_Y_120 (by decide) rfl rfl (rfl) ?_
  refine zU_iconst d_Y_isUnruly_13 ?_
  refine zU_ixor d_Y_isUnruly_14 ?_
  refine zU_iand d_Y_isUnruly_15 ?_
  refine zU_istore_n d_Y_isUnruly_16 (by decide) ?_
  refine zU.eqL (L' := [some (zp 26), some (zi ((k + 1 : Nat) : Int)), some (zi (zand (μ 27 (k + 1)) (zxor (μ 1 3) (-1)))), none]) rfl ?_
  refine zU_iconst d_Y_isUnruly_17 ?_
  refine zU_istore_n d_Y_isUnruly_18 (by decide) ?_
  refine zU.eqL (L' := [some (zp 26), some (zi ((k + 1 : Nat) : Int)), some (zi (zand (μ 27 (k + 1)) (zxor (μ 1 3) (-1)))), some (zi 0)]) rfl ?_
  have hJ19 : ∀ (d : Nat) (e : Nat), e + d = 12 → (∀ j, j < e → ((U k j && !C j) && decide (ktg (gtg g) K k j = 0)) = false) → zU Γ b_Y_isUnruly n_Y 4 (some .boolean) [] (zRm 1 0 23) 0 0 (zFin Γ 0 true (zRi (fun r μ' => μ' = μ ∧ r = zB (unr (gtg g) U C K k)))) true 0 μ 19 [some (zp 26), some (zi ((k + 1 : Nat) : Int)), some (zi (zand (μ 27 (k + 1)) (zxor (μ 1 3) (-1)))), some (zi (e : Int))] [] := by
    intro d
    induction d using Nat.strongRecOn with
    | _ d ih19 =>
      intro e hd hb
      have hbe : ∀ e, e < 12 → zbt (zand (μ 27 (k + 1)) (zxor (μ 1 3) (-1))) e = (U k e && !C e) := fun e he => by rw [zbt_and, zbt_not _ (by omega), (hU k hk).2 e he, hC.2 e he]
      refine zU_iload_n d_Y_isUnruly_19 rfl ?_
      refine zU_bipush d_Y_isUnruly_20 (by decide) ?_
      refine zU_icmp_ge 53 d_Y_isUnruly_22 (by decide) (by omega) (by omega) (fun h22 => ?_) (fun h22 => ?_)
      · refine zU_iconst d_Y_isUnruly_53 ?_
        exact zU_ireturn d_Y_isUnruly_54 (Or.inr ⟨rfl, by omega⟩) (by decide) (by decide) (⟨_, rfl, rfl, by rw [eq_comm, zB_zero]; have he : e = 12 := (by omega); subst he; exact any_not hb⟩)
      · refine zU_iload_n d_Y_isUnruly_25 rfl ?_
        refine zU_iload_n d_Y_isUnruly_26 rfl ?_
        refine zU_callSi [zi (zand (μ 27 (k + 1)) (zxor (μ 1 3) (-1))), zi (e : Int)] d_Y_isUnruly_27 k_Y_97 rfl (by decide) (Nat.le_of_ble_eq_true rfl) (fun l => m_C_hasBit l μ _ e (zand_r _ _) (by omega)) (fun r27 μ27 h27 => ?_)
        obtain ⟨hμ27, rfl⟩ := h27
        replace hμ27 := hμ27.symm
        subst hμ27
        refine zU_if_eq 47 d_Y_isUnruly_30 (by decide) (zBr _) (fun h30 => ?_) (fun h30 => ?_)
        · refine zU_iinc d_Y_isUnruly_47 rfl ?_
          refine zU.eqL (L' := [some (zp 26), some (zi ((k + 1 : Nat) : Int)), some (zi (zand (μ 27 (k + 1)) (zxor (μ 1 3) (-1)))), some (zi (((e + 1 : Nat) : Int)))]) (by first | rfl | exact congrArg (fun zz : Int => [some (zp 26), some (zi ((k + 1 : Nat) : Int)), some (zi (zand (μ 27 (k + 1)) (zxor (μ 1 3) (-1)))), some (zi zz)]) (show ((e : Int) + 1 : Int) = ((e + 1 : Nat) : Int) by omega)) ?_
          refine zU_goto 19 d_Y_isUnruly_50 (by decide) ?_
          exact ih19 (d - 1) (by omega) (e + 1) (by omega) (zrn hb (by rw [← hbe e (by omega), zB_zero.mp h30]; rfl))
        · refine zU_aload_n d_Y_isUnruly_33 rfl ?_
          refine zU_getR 15 d_Y_isUnruly_34 f_Y_25 (by decide) rfl rfl rfl ?_
          refine zU_iload_n d_Y_isUnruly_37 rfl ?_
          refine zU_iload_n d_Y_isUnruly_38 rfl ?_
          refine zU_callVi (p0 := 15) [zi ((k + 1 : Nat) : Int), zi (e : Int)] d_Y_isUnruly_39 k_Y_123 rfl (by decide) rfl rfl (by decide) (Nat.le_of_ble_eq_true rfl) (fun l => m_G_kt l μ hG hK hk (by omega)) (fun r39 μ39 h39 => ?_)
          obtain ⟨hμ39, rfl⟩ := h39
          replace hμ39 := hμ39.symm
          subst hμ39
          refine zU_if_ne 47 d_Y_isUnruly_42 (by decide) (by have := ktg_le (K := K) hG hk (e := e) (by omega); omega) (fun h42 => ?_) (fun h42 => ?_)
          · refine zU_iinc d_Y_isUnruly_47 rfl ?_
            refine zU.eqL (L' := [some (zp 26), some (zi ((k + 1 : Nat) : Int)), some (zi (zand (μ 27 (k + 1)) (zxor (μ 1 3) (-1)))), some (zi (((e + 1 : Nat) : Int)))]) (by first | rfl | exact congrArg (fun zz : Int => [some (zp 26), some (zi ((k + 1 : Nat) : Int)), some (zi (zand (μ 27 (k + 1)) (zxor (μ 1 3) (-1)))), some (zi zz)]) (show ((e : Int) + 1 : Int) = ((e + 1 : Nat) : Int) by omega)) ?_
            refine zU_goto 19 d_Y_isUnruly_50 (by decide) ?_
            exact ih19 (d - 1) (by omega) (e + 1) (by omega) (zrn hb (by have : ¬ ktg (gtg g) K k e = 0 := (by omega); simp [this]))
          · refine zU_iconst d_Y_isUnruly_45 ?_
            exact zU_ireturn d_Y_isUnruly_46 (Or.inr ⟨rfl, by omega⟩) (by decide) (by decide) (⟨_, rfl, rfl, by rw [eq_comm, zB_one]; exact any_iff.mpr ⟨e, by omega, by rw [← hbe e (by omega), zB_nz.mp h30]; have : ktg (gtg g) K k e = 0 := (by omega); simp [this]⟩⟩)
  exact hJ19 12 0 (by omega) (fun j hj => absurd hj (by omega))
set_option maxRecDepth 100000 in
set_option maxHeartbeats 4000000 in
theorem m_Y_dropUnruly (l : Launch) (μ : zM) {g : gT} {K : Nat → Bool} {U : Nat → Nat → Bool} {C : Nat → Bool} (hG : gRep g μ) (hK : ∀ k, k < g.1.length → μ 19 (k + 1) = zB (K k)) (hU : ∀ k, k < g.1.length → zmask 12 (μ 27 (k + 1)) (U k)) (hC : zmask 12 (μ 1 3) C) {B G : Nat → Bool} (hA : gAbove g.1.length (gtg g) U C B G K) :
    zC l y_Y_dropUnruly b_Y_dropUnruly 3 (some .boolean) [] 2 0 46 false [zp 26] μ (zRi (fun r μ' => ∃ K' : Nat → Bool, (∀ k, k < g.1.length → μ' 19 (k + 1) = zB (K' k)) ∧ gAbove g.1.length (gtg g) U C B G K' ∧ (∀ k, k < g.1.length → K' k = true → K k = true) ∧ ((r = 0 ∧ K' = K ∧ ∀ k, k < g.1.length → K k = true → unr (gtg g) U C K k = false) ∨ (r = 1 ∧ ∃ k, k < g.1.length ∧ K' k = false ∧ K k = true)) ∧ ∀ q, q ≠ 19 → μ' q = μ q)) := by
  refine zC.of (own := n_Y) (L := [some (zp 26), none, none]) (by decide) rfl (by simp [zcat]) (Nat.le_of_ble_eq_true rfl) rfl (fun Γ => ?_)
  have hn := hG.1.2.1
  have htg : ∀ k e, k < g.1.length → e < 12 → gtg g k e ≤ g.1.length := fun k e hk he => (gTo_eq hG (by omega) (by omega)).2
  refine zU_iconst d_Y_dropUnruly_0 ?_
  refine zU_istore_n d_Y_dropUnruly_1 (by decide) ?_
  refine zU.eqL (L' := [some (zp 26), some (zi 0), none]) rfl ?_
  refine zU_aload_n d_Y_dropUnruly_2 rfl ?_
  refine zU_getR 15 d_Y_dropUnruly_3 f_Y_25 (by decide) rfl rfl rfl ?_
  refine zU_getI (v := (g.1.length : Int)) d_Y_dropUnruly_6 f_Y_36 (by decide) rfl rfl (hG.1.1) ?_
  refine zU_istore_n d_Y_dropUnruly_9 (by decide) ?_
  refine zU.eqL (L' := [some (zp 26), some (zi 0), some (zi ((g.1.length : Int)))]) rfl ?_
  have hJ10 : ∀ (d : Nat) (k : Nat) (x : Int) (μ1 : zM) (K1 : Nat → Bool), k = d → k ≤ g.1.length → (∀ j, j < g.1.length → μ1 19 (j + 1) = zB (K1 j)) → gAbove g.1.length (gtg g) U C B G K1 → (∀ j, j < g.1.length → K1 j = true → K j = true) → ((x = 0 ∧ (∀ j, K1 j = K j) ∧ ∀ j, k ≤ j → j < g.1.length → K j = true → unr (gtg g) U C K j = false) ∨ (x = 1 ∧ ∃ j, j < g.1.length ∧ K1 j = false ∧ K j = true)) → (∀ q, q ≠ 19 → μ1 q = μ q) → zU Γ b_Y_dropUnruly n_Y 3 (some .boolean) [] (zRm 2 0 46) 0 0 (zFin Γ 0 false (zRi (fun r μ' => ∃ K' : Nat → Bool, (∀ k, k < g.1.length → μ' 19 (k + 1) = zB (K' k)) ∧ gAbove g.1.length (gtg g) U C B G K' ∧ (∀ k, k < g.1.length → K' k = true → K k = true) ∧ ((r = 0 ∧ K' = K ∧ ∀ k, k < g.1.length → K k = true → unr (gtg g) U C K k = false) ∨ (r = 1 ∧ ∃ k, k < g.1.length ∧ K' k = false ∧ K k = true)) ∧ ∀ q, q ≠ 19 → μ' q = μ q))) false 0 μ1 10 [some (zp 26), some (zi x), some (zi (k : Int))] [] := by
    intro d
    induction d using Nat.strongRecOn with
    | _ d ih10 =>
      intro k x μ1 K1 hd hkn hk1 hA1 hs1 hx hq
      have hxr : x = 0 ∨ x = 1 := by rcases hx with h | h <;> omega
      refine zU_iload_n d_Y_dropUnruly_10 rfl ?_
      refine zU_iconst d_Y_dropUnruly_11 ?_
      refine zU_icmp_lt 53 d_Y_dropUnruly_12 (by decide) (by omega) (by omega) (fun h12 => ?_) (fun h12 => ?_)
      · refine zU_iload_n d_Y_dropUnruly_53 rfl ?_
        exact zU_ireturn d_Y_dropUnruly_54 (Or.inr ⟨rfl, hxr⟩) (by decide) (by decide) (⟨_, rfl, K1, hk1, hA1, hs1, by rcases hx with ⟨h1, h2, h3⟩ | h; { exact Or.inl ⟨h1, funext h2, fun i hi => h3 i (by omega) hi⟩ }; { exact Or.inr h }, hq⟩)
      · obtain ⟨j, hjk⟩ : ∃ j, k = j + 1 := ⟨k - 1, by omega⟩
        subst hjk
        have hjk : j + 1 = j + 1 := rfl
        have hG1 : gRep g μ1 := gRep_congr hG (fun q h => hq q (by omega))
        refine zU.eqL (L' := [some (zp 26), some (zi x), some (zi ((j + 1 : Nat) : Int))]) (rfl) ?_
        refine zU_aload_n d_Y_dropUnruly_15 rfl ?_
        refine zU_getR 15 d_Y_dropUnruly_16 f_Y_25 (by decide) rfl rfl rfl ?_
        refine zU_getR 19 d_Y_dropUnruly_19 f_Y_85 (by decide) rfl rfl rfl ?_
        refine zU_iload_n d_Y_dropUnruly_22 rfl ?_
        refine zU_zald (v := zB (K1 j)) d_Y_dropUnruly_23 (by decide) rfl (by decide) (by omega) (hk1 j (by omega)) ?_
        refine zU_if_eq 47 d_Y_dropUnruly_24 (by decide) (zBr _) (fun h24 => ?_) (fun h24 => ?_)
        · refine zU_iinc d_Y_dropUnruly_47 rfl ?_
          refine zU.eqL (L' := [some (zp 26), some (zi x), some (zi ((j : Int)))]) (by first | rfl | exact congrArg (fun zz : Int => [some (zp 26), some (zi x), some (zi zz)]) (show (((j + 1 : Nat) : Int) + (-1) : Int) = (j : Int) by omega)) ?_
          refine zU_goto 10 d_Y_dropUnruly_50 (by decide) ?_
          exact ih10 j (by omega) j x μ1 K1 rfl (by omega) hk1 hA1 hs1 (dU0 hx hjk (fun h => absurd (zB_zero.mp h24) (by rw [h]; decide))) hq
        · refine zU_aload_n d_Y_dropUnruly_27 rfl ?_
          refine zU_iload_n d_Y_dropUnruly_28 rfl ?_
          refine zU_callVi (p0 := 26) [zi ((j + 1 : Nat) : Int)] d_Y_dropUnruly_29 k_Y_117 rfl (by decide) rfl rfl (by decide) (Nat.le_of_ble_eq_true rfl) (fun l => m_Y_isUnruly l μ1 hG1 hk1 (fun k hk => by rw [hq 27 (by decide)]; exact hU k hk) (by rw [hq 1 (by decide)]; exact hC) (by omega)) (fun r29 μ29 h29 => ?_)
          obtain ⟨hμ29, rfl⟩ := h29
          replace hμ29 := hμ29.symm
          subst hμ29
          refine zU_if_eq 47 d_Y_dropUnruly_32 (by decide) (zBr _) (fun h32 => ?_) (fun h32 => ?_)
          · refine zU_iinc d_Y_dropUnruly_47 rfl ?_
            refine zU.eqL (L' := [some (zp 26), some (zi x), some (zi ((j : Int)))]) (by first | rfl | exact congrArg (fun zz : Int => [some (zp 26), some (zi x), some (zi zz)]) (show (((j + 1 : Nat) : Int) + (-1) : Int) = (j : Int) by omega)) ?_
            refine zU_goto 10 d_Y_dropUnruly_50 (by decide) ?_
            exact ih10 j (by omega) j x μ1 K1 rfl (by omega) hk1 hA1 hs1 (dU1 hx hjk (zB_zero.mp h32)) hq
          · refine zU_aload_n d_Y_dropUnruly_35 rfl ?_
            refine zU_getR 15 d_Y_dropUnruly_36 f_Y_25 (by decide) rfl rfl rfl ?_
            refine zU_getR 19 d_Y_dropUnruly_39 f_Y_85 (by decide) rfl rfl rfl ?_
            refine zU_iload_n d_Y_dropUnruly_42 rfl ?_
            refine zU_iconst d_Y_dropUnruly_43 ?_
            refine zU_zast d_Y_dropUnruly_44 (by decide) rfl (by decide) (by omega) (by omega) ?_
            refine zU.eqM (μ' := zup μ1 19 (j + 1) 0) rfl ?_
            refine zU_iconst d_Y_dropUnruly_45 ?_
            refine zU_istore_n d_Y_dropUnruly_46 (by decide) ?_
            refine zU.eqL (L' := [some (zp 26), some (zi 1), some (zi ((j + 1 : Nat) : Int))]) rfl ?_
            refine zU_iinc d_Y_dropUnruly_47 rfl ?_
            refine zU.eqL (L' := [some (zp 26), some (zi 1), some (zi ((j : Int)))]) (by first | rfl | exact congrArg (fun zz : Int => [some (zp 26), some (zi 1), some (zi zz)]) (show (((j + 1 : Nat) : Int) + (-1) : Int) = (j : Int) by omega)) ?_
            refine zU_goto 10 d_Y_dropUnruly_50 (by decide) ?_
            exact ih10 j (by omega) j 1 _ (fun i => if i = j then false else K1 i) rfl (by omega) (fun i hi => by rw [zup_at]; by_cases h : i = j; { subst h; simp [zB] }; { have h3 : ¬ (i + 1 = j + 1) := (by omega); simp only [h3, h, and_false, if_false]; exact hk1 i hi }) (gAbove_cut hA1 (fun i _ h => by by_cases h2 : i = j; { simp [h2] at h }; { simpa [h2] using h }) (fun Z hZ i hi hz h1 => by by_cases h2 : i = j; { subst h2; rw [unr_out hZ (hA1.2 Z hZ) htg hi (zB_nz.mp h32)] at hz; cases hz }; { simpa [h2] using h1 })) (fun i hi h => by by_cases h2 : i = j; { simp [h2] at h }; { exact hs1 i hi (by simpa [h2] using h) }) (Or.inr ⟨rfl, j, by omega, by simp, hs1 j (by omega) (zB_nz.mp h24)⟩) (fun q q1 => by rw [zup_ne _ _ _ q1]; exact hq q q1)
  refine zU.loose ?_
  exact hJ10 g.1.length _ 0 μ K rfl (by omega) hK hA (fun _ _ h => h) (Or.inl ⟨rfl, fun _ => rfl, fun j h1 h2 => absurd h1 (by omega)⟩) (fun _ _ => rfl)
end
section
theorem unr_no {tg : Nat → Nat → Nat} {U : Nat → Nat → Bool} {C K : Nat → Bool} {k e : Nat} (h : unr tg U C K k = false) (he : e < 12) (hu : U k e = true) (hc : C e = false) : ktg tg K k e ≠ 0 := by
  intro h0
  have : unr tg U C K k = true := any_iff.mpr ⟨e, he, by simp [hu, hc, h0]⟩
  rw [h] at this
  cases this
theorem any_none {f : Nat → Bool} {n : Nat} (h : (List.range n).any f = false) {k : Nat} (hk : k < n) : f k = false := by
  cases hf : f k
  · rfl
  · have : (List.range n).any f = true := any_iff.mpr ⟨k, hk, hf⟩
    rw [h] at this
    cases this
/-- a round of keepGood that drops dead ends -/
theorem kGd {g : gT} {μ : zM} {U : Nat → Nat → Bool} {C B G K : Nat → Bool} (hG : gRep g μ) (hA : gAbove g.1.length (gtg g) U C B G K) {f : Nat → Int} (hD : ∀ k, k < g.1.length → mDist (gtg g) K G k (f k)) :
    gAbove g.1.length (gtg g) U C B G (fun k => K k && !decide (f k = -1)) := by
  refine gAbove_cut hA (fun k _ h => by simp only [Bool.and_eq_true] at h; exact h.1) (fun Z hZ k hk hz h1 => ?_)
  obtain ⟨d, hd⟩ := hZ.2.2 k hk hz
  have := rch_mono (n := g.1.length) (hA.2 Z hZ) (fun k e hk he => (gTo_eq hG (by omega) (by omega)).2) d k hk hd
  have h2 : ¬ f k = -1 := fun h => by
    rw [(mDist_dead (hD k hk)).mp h d] at this
    cases this
  simp [h1, h2]
/-- the last round of keepGood -/
theorem kGp {g : gT} {U : Nat → Nat → Bool} {C B G K : Nat → Bool} (hA : gAbove g.1.length (gtg g) U C B G K) (hu : ∀ k, k < g.1.length → K k = true → unr (gtg g) U C K k = false) {f : Nat → Int} (hD : ∀ k, k < g.1.length → mDist (gtg g) K G k (f k)) (hn : (List.range g.1.length).any (fun k => K k && decide (f k = -1)) = false) :
    gPost g.1.length (gtg g) U C B G K := by
  refine ⟨hA.1, fun k hk h e he h1 h2 => unr_no (hu k hk h) he h1 h2, fun k hk h => ?_⟩
  have h1 := any_none hn hk
  simp only [h, Bool.true_and, decide_eq_false_iff_not] at h1
  rcases hD k hk with ⟨h2, -⟩ | ⟨d, -, -, h3, -⟩
  · exact absurd h2 h1
  · exact ⟨d, h3⟩
set_option maxRecDepth 100000 in
set_option maxHeartbeats 4000000 in
theorem m_Y_keepGood (l : Launch) (μ : zM) {g : gT} {U : Nat → Nat → Bool} {C B G : Nat → Bool} (hG : gRep g μ) (hK : ∀ k, k < g.1.length → μ 19 (k + 1) = zB (B k)) (hM : ∀ k, k < g.1.length → μ 18 (k + 1) = zB (G k)) (hU : ∀ k, k < g.1.length → zmask 12 (μ 27 (k + 1)) (U k)) (hC : zmask 12 (μ 1 3) C) (hES : g.2.1.length ≤ 2400) :
    zC l y_Y_keepGood b_Y_keepGood 3 none [] 3 0 68 false [zp 26] μ (zRv (fun μ' => ∃ K : Nat → Bool, (∀ k, k < g.1.length → μ' 19 (k + 1) = zB (K k)) ∧ gPost g.1.length (gtg g) U C B G K ∧ gAbove g.1.length (gtg g) U C B G K ∧ (∀ k, k < g.1.length → mDist (gtg g) K G k (μ' 20 (k + 1))) ∧ ∀ q, q ≠ 19 → q ≠ 20 → q ≠ 25 → μ' q = μ q)) := by
  refine zC.of (own := n_Y) (L := [some (zp 26), none, none]) (by decide) rfl (by simp [zcat]) (Nat.le_of_ble_eq_true rfl) rfl (fun Γ => ?_)
  have hn := hG.1.2.1
  refine zU_iconst d_Y_keepGood_0 ?_
  refine zU_istore_n d_Y_keepGood_1 (by decide) ?_
  refine zU.eqL (L' := [some (zp 26), some (zi 1), none]) rfl ?_
  refine zU_iconst d_Y_keepGood_2 ?_
  refine zU_istore_n d_Y_keepGood_3 (by decide) ?_
  refine zU.eqL (L' := [some (zp 26), some (zi 1), some (zi 0)]) rfl ?_
  have hJ4 : ∀ (d : Nat) (i : Nat) (x : Int) (μ1 : zM) (K1 : Nat → Bool), i + d = 201 → (∀ j, j < g.1.length → μ1 19 (j + 1) = zB (K1 j)) → gAbove g.1.length (gtg g) U C B G K1 → ((x = 1 ∧ cnt K1 g.1.length + i ≤ g.1.length) ∨ (x = 0 ∧ gPost g.1.length (gtg g) U C B G K1 ∧ ∀ k, k < g.1.length → mDist (gtg g) K1 G k (μ1 20 (k + 1)))) → (∀ q, q ≠ 19 → q ≠ 20 → q ≠ 25 → μ1 q = μ q) → zU Γ b_Y_keepGood n_Y 3 none [] (zRm 3 0 68) 0 0 (zFin Γ 0 false (zRv (fun μ' => ∃ K : Nat → Bool, (∀ k, k < g.1.length → μ' 19 (k + 1) = zB (K k)) ∧ gPost g.1.length (gtg g) U C B G K ∧ gAbove g.1.length (gtg g) U C B G K ∧ (∀ k, k < g.1.length → mDist (gtg g) K G k (μ' 20 (k + 1))) ∧ ∀ q, q ≠ 19 → q ≠ 20 → q ≠ 25 → μ' q = μ q))) false 0 μ1 4 [some (zp 26), some (zi x), some (zi (i : Int))] [] := by
    intro d
    induction d using Nat.strongRecOn with
    | _ d ih4 =>
      intro i x μ1 K1 hd hk1 hA1 hx hq
      have hxr : x = 0 ∨ x = 1 := by rcases hx with h | h <;> omega
      refine zU_iload_n d_Y_keepGood_4 rfl ?_
      refine zU_if_eq 45 d_Y_keepGood_5 (by decide) (by omega) (fun h5 => ?_) (fun h5 => ?_)
      · exact zU_return d_Y_keepGood_45 rfl (by decide) (by decide) (⟨rfl, K1, hk1, by rcases hx with ⟨h, _⟩ | h; { exact absurd h (by omega) }; { exact ⟨h.2.1, hA1, h.2.2, hq⟩ }⟩)
      · refine zU_iload_n d_Y_keepGood_8 rfl ?_
        refine zU_sipush d_Y_keepGood_9 (by decide) ?_
        refine zU_icmp_gt 45 d_Y_keepGood_12 (by decide) (by omega) (by omega) (fun h12 => ?_) (fun h12 => ?_)
        · exfalso; rcases hx with ⟨_, h⟩ | ⟨h, _⟩ <;> omega
        · have hG1 : gRep g μ1 := gRep_congr hG (fun q h => hq q (by omega) (by omega) (by omega))
          refine zU_aload_n d_Y_keepGood_15 rfl ?_
          refine zU_callVi (p0 := 26) [] d_Y_keepGood_16 k_Y_107 rfl (by decide) rfl rfl (by decide) (Nat.le_of_ble_eq_true rfl) (fun l => m_Y_dropUnruly l μ1 hG1 hk1 (by rw [hq 27 (by decide) (by decide) (by decide)]; exact hU) (by rw [hq 1 (by decide) (by decide) (by decide)]; exact hC) hA1) (fun r16 μ16 h16 => ?_)
          obtain ⟨K2, hk2, hA2, hs2, hx16, hq16⟩ := h16
          have hG2 : gRep g μ16 := gRep_congr hG1 (fun q h => hq16 q (by omega))
          refine zU_istore_n d_Y_keepGood_19 (by decide) ?_
          refine zU.eqL (L' := [some (zp 26), some (zi (r16)), some (zi (i : Int))]) rfl ?_
          refine zU_aload_n d_Y_keepGood_20 rfl ?_
          refine zU_getR 15 d_Y_keepGood_21 f_Y_25 (by decide) rfl rfl rfl ?_
          refine zU_callVv (p0 := 15) [] d_Y_keepGood_24 k_Y_111 rfl (by decide) rfl rfl (by decide) (Nat.le_of_ble_eq_true rfl) (fun l => m_G_measure l μ16 (G := G) hG2 hk2 (by rw [hq16 18 (by decide), hq 18 (by decide) (by decide) (by decide)]; exact hM) hn hES) (fun μ24 h24 => ?_)
          obtain ⟨hD24, hq24⟩ := h24
          have hG3 : gRep g μ24 := gRep_congr hG2 (fun q h => hq24 q (by omega) (by omega))
          refine zU_aload_n d_Y_keepGood_27 rfl ?_
          refine zU_getR 15 d_Y_keepGood_28 f_Y_25 (by decide) rfl rfl rfl ?_
          refine zU_callVi (p0 := 15) [] d_Y_keepGood_31 k_Y_114 rfl (by decide) rfl rfl (by decide) (Nat.le_of_ble_eq_true rfl) (fun l => m_G_dropDeadEnds l μ24 hG3 (K := K2) (by rw [hq24 19 (by decide) (by decide)]; exact hk2) hn (fun k hk => by have := mDist_r (hD24 k hk); omega)) (fun r31 μ31 h31 => ?_)
          have hr31 := h31.1
          refine zU_if_eq 39 d_Y_keepGood_34 (by decide) (by rw [h31.1]; exact zBr _) (fun h34 => ?_) (fun h34 => ?_)
          · have h34' := h34
            rw [h31.1] at h34'
            have hq31 : ∀ q, q ≠ 19 → q ≠ 20 → q ≠ 25 → μ31 q = μ q := fun q q1 q2 q3 => by rw [h31.2.2 q q1, hq24 q q2 q3, hq16 q q1, hq q q1 q2 q3]
            refine zU_iinc d_Y_keepGood_39 rfl ?_
            refine zU.eqL (L' := [some (zp 26), some (zi (r16)), some (zi (((i + 1 : Nat) : Int)))]) (by first | rfl | exact congrArg (fun zz : Int => [some (zp 26), some (zi (r16)), some (zi zz)]) (show ((i : Int) + 1 : Int) = ((i + 1 : Nat) : Int) by omega)) ?_
            refine zU_goto 4 d_Y_keepGood_42 (by decide) ?_
            exact ih4 (d - 1) (by omega) (i + 1) r16 μ31 K2 (by omega) (fun j hj => by rw [h31.2.1 j hj]; have h9 := any_none (zB_zero.mp h34') hj; cases hk9 : K2 j; { rfl }; { rw [hk9] at h9; simp only [Bool.true_and] at h9; simp only [h9]; rfl }) hA2 (by rcases hx16 with ⟨h1, h2, h3⟩ | ⟨h1, h2⟩; { exact Or.inr ⟨h1, kGp hA2 (by rw [h2]; exact h3) (f := fun k => μ24 20 (k + 1)) hD24 (zB_zero.mp h34'), by rw [h31.2.2 20 (by decide)]; exact hD24⟩ }; { exact Or.inl ⟨h1, by have := cnt_less g.1.length hs2 h2; rcases hx with ⟨_, h⟩ | ⟨h, _⟩ <;> omega⟩ }) hq31
          · refine zU_iconst d_Y_keepGood_37 ?_
            refine zU_istore_n d_Y_keepGood_38 (by decide) ?_
            refine zU.eqL (L' := [some (zp 26), some (zi 1), some (zi (i : Int))]) rfl ?_
            have h34' := h34
            rw [h31.1] at h34'
            have hq31 : ∀ q, q ≠ 19 → q ≠ 20 → q ≠ 25 → μ31 q = μ q := fun q q1 q2 q3 => by rw [h31.2.2 q q1, hq24 q q2 q3, hq16 q q1, hq q q1 q2 q3]
            refine zU_iinc d_Y_keepGood_39 rfl ?_
            refine zU.eqL (L' := [some (zp 26), some (zi 1), some (zi (((i + 1 : Nat) : Int)))]) (by first | rfl | exact congrArg (fun zz : Int => [some (zp 26), some (zi 1), some (zi zz)]) (show ((i : Int) + 1 : Int) = ((i + 1 : Nat) : Int) by omega)) ?_
            refine zU_goto 4 d_Y_keepGood_42 (by decide) ?_
            exact ih4 (d - 1) (by omega) (i + 1) 1 μ31 (fun k => K2 k && !decide (μ24 20 (k + 1) = -1)) (by omega) h31.2.1 (kGd hG hA2 hD24) (Or.inl ⟨rfl, by obtain ⟨k, hk, h8⟩ := any_iff.mp (zB_nz.mp h34'); simp only [Bool.and_eq_true, decide_eq_true_eq] at h8; have := cnt_mono g.1.length hs2; have := cnt_less (f := fun k => K2 k && !decide (μ24 20 (k + 1) = -1)) (g := K2) g.1.length (fun k _ h => by simp only [Bool.and_eq_true] at h; exact h.1) ⟨k, hk, by simp [h8.2], h8.1⟩; clear hx16 h31; rcases hx with ⟨_, h⟩ | ⟨h, _⟩ <;> omega⟩) hq31
  refine zU.loose ?_
  exact hJ4 201 0 1 μ B (by omega) hK ⟨fun _ _ h => h, fun Z hZ => hZ.1⟩ (Or.inl ⟨rfl, by have := cnt_le B g.1.length; omega⟩) (fun _ _ _ _ => rfl)
end
section
/-! the supervisors' places -/
theorem zSl0 {j : Nat} (h : j < 3) : 33 + 6 * j < zN := by unfold zN; omega
theorem zSl1 {j : Nat} (h : j < 3) : 34 + 6 * j < zN := by unfold zN; omega
theorem zSl2 {j : Nat} (h : j < 3) : 35 + 6 * j < zN := by unfold zN; omega
theorem zSl3 {j : Nat} (h : j < 3) : 36 + 6 * j < zN := by unfold zN; omega
theorem zSl4 {j : Nat} (h : j < 3) : 37 + 6 * j < zN := by unfold zN; omega
theorem zSl5 {j : Nat} (h : j < 3) : 38 + 6 * j < zN := by unfold zN; omega
theorem zSk0 {j : Nat} (h : j < 3) : zK (33 + 6 * j) = .inr 4 := by
  have : ∀ j, j < 3 → zK (33 + 6 * j) = .inr 4 := by decide
  exact this j h
theorem zSk1 {j : Nat} (h : j < 3) : zK (34 + 6 * j) = .inl (0, 201) := by
  have : ∀ j, j < 3 → zK (34 + 6 * j) = .inl (0, 201) := by decide
  exact this j h
theorem zSk2 {j : Nat} (h : j < 3) : zK (35 + 6 * j) = .inl (0, 201) := by
  have : ∀ j, j < 3 → zK (35 + 6 * j) = .inl (0, 201) := by decide
  exact this j h
theorem zSk3 {j : Nat} (h : j < 3) : zK (36 + 6 * j) = .inl (0, 201) := by
  have : ∀ j, j < 3 → zK (36 + 6 * j) = .inl (0, 201) := by decide
  exact this j h
theorem zSk4 {j : Nat} (h : j < 3) : zK (37 + 6 * j) = .inl (0, 201) := by
  have : ∀ j, j < 3 → zK (37 + 6 * j) = .inl (0, 201) := by decide
  exact this j h
theorem zSk5 {j : Nat} (h : j < 3) : zK (38 + 6 * j) = .inl (0, 2412) := by
  have : ∀ j, j < 3 → zK (38 + 6 * j) = .inl (0, 2412) := by decide
  exact this j h
theorem zSr4 {j : Nat} (h : j < 3) : zR (33 + 6 * j) 4 = 34 + 6 * j := by
  have : ∀ j, j < 3 → zR (33 + 6 * j) 4 = 34 + 6 * j := by decide
  exact this j h
theorem zSr5 {j : Nat} (h : j < 3) : zR (33 + 6 * j) 5 = 35 + 6 * j := by
  have : ∀ j, j < 3 → zR (33 + 6 * j) 5 = 35 + 6 * j := by decide
  exact this j h
theorem zSr6 {j : Nat} (h : j < 3) : zR (33 + 6 * j) 6 = 36 + 6 * j := by
  have : ∀ j, j < 3 → zR (33 + 6 * j) 6 = 36 + 6 * j := by decide
  exact this j h
theorem zSr7 {j : Nat} (h : j < 3) : zR (33 + 6 * j) 7 = 37 + 6 * j := by
  have : ∀ j, j < 3 → zR (33 + 6 * j) 7 = 37 + 6 * j := by decide
  exact this j h
theorem zSr8 {j : Nat} (h : j < 3) : zR (33 + 6 * j) 8 = 38 + 6 * j := by
  have : ∀ j, j < 3 → zR (33 + 6 * j) 8 = 38 + 6 * j := by decide
  exact this j h
/-! words -/
def fb (g : gT) (k : Nat) : Nat := g.2.2.getD k 0
/-- the word by which a node was found, backwards -/
def wB (f : Nat → Nat) : Nat → Nat → List Nat
  | 0, _ => []
  | d + 1, k => if k = 0 then [] else f k % 12 :: wB f d (f k / 12 - 1)
def gFb (g : gT) : Prop := ∀ k, 1 ≤ k → k < g.1.length → 12 ≤ fb g k ∧ fb g k / 12 ≤ k
theorem fb_eq {g : gT} {μ : zM} (h : gRep g μ) {k : Nat} (hk : k < g.1.length) : μ 21 (k + 1) = (fb g k : Int) := by
  have h1 : g.2.2[k]? = some (fb g k) := by
    have : k < g.2.2.length := by rw [h.2.2.1]; exact hk
    rw [List.getElem?_eq_getElem this]
    simp [fb, this]
  exact h.2.2.2 k _ h1
theorem gAt_fbl (nxt : Nat → Nat → Option Nat) (c0 : Nat) : ∀ t, (gAt nxt c0 t).2.2.length = (gAt nxt c0 t).1.length
  | 0 => rfl
  | t + 1 => by
    have ih := gAt_fbl nxt c0 t
    simp only [gAt]
    unfold gStep
    split
    · exact ih
    · split
      · exact ih
      · split
        · exact ih
        · simp [ih]
theorem gAt_fb (nxt : Nat → Nat → Option Nat) (c0 : Nat) : ∀ t, gFb (gAt nxt c0 t)
  | 0 => fun k h1 h2 => by
    simp only [gAt, List.length_cons, List.length_nil] at h2
    omega
  | t + 1 => by
    have ih := gAt_fb nxt c0 t
    have hl := gAt_fbl nxt c0 t
    simp only [gAt]
    unfold gStep
    split
    · exact ih
    · next c hc =>
      split
      · exact ih
      · split
        · exact ih
        · intro k h1 h2
          have hlt := (List.getElem?_eq_some_iff.mp hc).1
          simp only [List.length_append, List.length_cons, List.length_nil] at h2
          by_cases hk : k < (gAt nxt c0 t).1.length
          · have := ih k h1 hk
            unfold fb at this ⊢
            simp only [List.getD_eq_getElem?_getD] at this ⊢
            rw [List.getElem?_append_left (by omega)]
            exact this
          · have hkl : k = (gAt nxt c0 t).2.2.length := by omega
            unfold fb
            simp only [List.getD_eq_getElem?_getD, hkl, List.getElem?_concat_length, Option.getD_some]
            omega
/-- the word of the first lost node, as it is written: its length (-1: none), its events backwards -/
def sWd (g : gT) (K : Nat → Bool) (v : Int) (f : Nat → Int) : Prop := (v = -1 ∧ ∀ k, k < g.1.length → K k = true) ∨ ∃ k, k < g.1.length ∧ K k = false ∧ (∀ j, j < k → K j = true) ∧ v = ((wB (fb g) 200 k).length : Int) ∧ ∀ (i y : Nat), (wB (fb g) 200 k)[i]? = some y → f i = (y : Int)
theorem pre_add {l : List Nat} {x : Nat} {f f' : Nat → Int} (h : ∀ (i y : Nat), l[i]? = some y → f i = (y : Int)) (hf : ∀ i, f' i = if i = l.length then (x : Int) else f i) : ∀ (i y : Nat), (l ++ [x])[i]? = some y → f' i = (y : Int) := by
  intro i y hi
  rw [hf]
  by_cases hl : i < l.length
  · rw [List.getElem?_append_left hl] at hi
    rw [if_neg (by omega)]
    exact h i y hi
  · have hi1 := (List.getElem?_eq_some_iff.mp hi).1
    simp only [List.length_append, List.length_cons, List.length_nil] at hi1
    have : i = l.length := by omega
    subst this
    simp only [List.getElem?_concat_length, Option.some.injEq] at hi
    rw [if_pos rfl, hi]
set_option maxRecDepth 100000 in
set_option maxHeartbeats 4000000 in
theorem m_Y_firstLost (l : Launch) (μ : zM) {g : gT} {K : Nat → Bool} (hG : gRep g μ) (hK : ∀ k, k < g.1.length → μ 19 (k + 1) = zB (K k)) :
    zC l y_Y_firstLost b_Y_firstLost 2 (some .int) [] 0 0 0 true [zp 26] μ (zRi (fun r μ' => μ' = μ ∧ ((r = 0 ∧ ∀ k, k < g.1.length → K k = true) ∨ ∃ k, k < g.1.length ∧ r = ((k + 1 : Nat) : Int) ∧ K k = false ∧ ∀ j, j < k → K j = true))) := by
  refine zC.of (own := n_Y) (L := [some (zp 26), none]) (by decide) rfl (by simp [zcat]) (Nat.le_of_ble_eq_true rfl) rfl (fun Γ => ?_)
  have hn := hG.1.2.1
  refine zU_iconst d_Y_firstLost_0 ?_
  refine zU_istore_n d_Y_firstLost_1 (by decide) ?_
  refine zU.eqL (L' := [some (zp 26), some (zi 1)]) rfl ?_
  have hJ2 : ∀ (d : Nat) (k : Nat), k + d = g.1.length → (∀ j, j < k → K j = true) → zU Γ b_Y_firstLost n_Y 2 (some .int) [] (zRm 0 0 0) 0 0 (zFin Γ 0 true (zRi (fun r μ' => μ' = μ ∧ ((r = 0 ∧ ∀ k, k < g.1.length → K k = true) ∨ ∃ k, k < g.1.length ∧ r = ((k + 1 : Nat) : Int) ∧ K k = false ∧ ∀ j, j < k → K j = true)))) true 0 μ 2 [some (zp 26), some (zi ((k + 1 : Nat) : Int))] [] := by
    intro d
    induction d using Nat.strongRecOn with
    | _ d ih2 =>
      intro k hd hj
      refine zU_iload_n d_Y_firstLost_2 rfl ?_
      refine zU_aload_n d_Y_firstLost_3 rfl ?_
      refine zU_getR 15 d_Y_firstLost_4 f_Y_25 (by decide) rfl rfl rfl ?_
      refine zU_getI (v := (g.1.length : Int)) d_Y_firstLost_7 f_Y_36 (by decide) rfl rfl (hG.1.1) ?_
      refine zU_icmp_gt 33 d_Y_firstLost_10 (by decide) (by omega) (by omega) (fun h10 => ?_) (fun h10 => ?_)
      · refine zU_iconst d_Y_firstLost_33 ?_
        exact zU_ireturn d_Y_firstLost_34 (Or.inl rfl) (by decide) (by decide) (⟨_, rfl, rfl, Or.inl ⟨rfl, fun i hi => hj i (by omega)⟩⟩)
      · refine zU_aload_n d_Y_firstLost_13 rfl ?_
        refine zU_getR 15 d_Y_firstLost_14 f_Y_25 (by decide) rfl rfl rfl ?_
        refine zU_getR 19 d_Y_firstLost_17 f_Y_85 (by decide) rfl rfl rfl ?_
        refine zU_iload_n d_Y_firstLost_20 rfl ?_
        refine zU_zald (v := zB (K k)) d_Y_firstLost_21 (by decide) rfl (by decide) (by omega) (hK k (by omega)) ?_
        refine zU_if_ne 27 d_Y_firstLost_22 (by decide) (zBr _) (fun h22 => ?_) (fun h22 => ?_)
        · refine zU_iinc d_Y_firstLost_27 rfl ?_
          refine zU.eqL (L' := [some (zp 26), some (zi (((k + 1 + 1 : Nat) : Int)))]) (by first | rfl | exact congrArg (fun zz : Int => [some (zp 26), some (zi zz)]) (show (((k + 1 : Nat) : Int) + 1 : Int) = ((k + 1 + 1 : Nat) : Int) by omega)) ?_
          refine zU_goto 2 d_Y_firstLost_30 (by decide) ?_
          exact ih2 (d - 1) (by omega) (k + 1) (by omega) (fun j hj' => by by_cases h : j = k; { rw [h]; exact zB_nz.mp h22 }; { exact hj j (by omega) })
        · refine zU_iload_n d_Y_firstLost_25 rfl ?_
          exact zU_ireturn d_Y_firstLost_26 (Or.inl rfl) (by decide) (by decide) (⟨_, rfl, rfl, Or.inr ⟨k, by omega, rfl, zB_zero.mp h22, hj⟩⟩)
  exact hJ2 g.1.length 0 (by omega) (fun j hj => absurd hj (by omega))
set_option maxRecDepth 100000 in
set_option maxHeartbeats 4000000 in
theorem m_Y_writeWord (l : Launch) (μ : zM) {g : gT} {K : Nat → Bool} (hG : gRep g μ) (hK : ∀ k, k < g.1.length → μ 19 (k + 1) = zB (K k)) (hF : gFb g) {j : Nat} (h_j : j < 3) :
    zC l y_Y_writeWord b_Y_writeWord 4 none [] 1 0 21 false [zp 26, zp (33 + 6 * j)] μ (zRv (fun μ' => sWd g K (μ' (33 + 6 * j) 3) (μ' (34 + 6 * j)) ∧ (∀ i, i ≠ 3 → μ' (33 + 6 * j) i = μ (33 + 6 * j) i) ∧ ∀ q, q ≠ 33 + 6 * j → q ≠ 34 + 6 * j → μ' q = μ q)) := by
  refine zC.of (own := n_Y) (L := [some (zp 26), some (zp (33 + 6 * j)), none, none]) (by decide) rfl (by simp [zcat]) (Nat.le_of_ble_eq_true rfl) rfl (fun Γ => ?_)
  have hn := hG.1.2.1
  refine zU_aload_n d_Y_writeWord_0 rfl ?_
  refine zU_callVi (p0 := 26) [] d_Y_writeWord_1 k_Y_126 rfl (by decide) rfl rfl (by decide) (Nat.le_of_ble_eq_true rfl) (fun l => m_Y_firstLost l μ hG hK) (fun r1 μ1 h1 => ?_)
  obtain ⟨hμ1, h1⟩ := h1
  replace hμ1 := hμ1.symm
  subst hμ1
  have hr1 : 0 ≤ r1 ∧ r1 ≤ 200 := by rcases h1 with ⟨h, -⟩ | ⟨k, hk, h, -⟩ <;> omega
  refine zU_istore_n d_Y_writeWord_4 (by decide) ?_
  refine zU.eqL (L' := [some (zp 26), some (zp (33 + 6 * j)), some (zi (r1)), none]) rfl ?_
  refine zU_iload_n d_Y_writeWord_5 rfl ?_
  refine zU_if_ne 15 d_Y_writeWord_6 (by decide) (by omega) (fun h6 => ?_) (fun h6 => ?_)
  · obtain ⟨k0, hk0, hrk0, hKk, hKj⟩ : ∃ k, k < g.1.length ∧ r1 = ((k + 1 : Nat) : Int) ∧ K k = false ∧ ∀ j, j < k → K j = true := by
      rcases h1 with ⟨h, -⟩ | h
      · exact absurd h h6
      · exact h
    subst hrk0
    refine zU.eqL (L' := [some (zp 26), some (zp (33 + 6 * j)), some (zi ((k0 + 1 : Nat) : Int)), none]) (rfl) ?_
    refine zU_iconst d_Y_writeWord_15 ?_
    refine zU_istore_n d_Y_writeWord_16 (by decide) ?_
    refine zU.eqL (L' := [some (zp 26), some (zp (33 + 6 * j)), some (zi ((k0 + 1 : Nat) : Int)), some (zi 0)]) rfl ?_
    have hJ17 : ∀ (d : Nat) (n k : Nat) (μ1 : zM) (w : List Nat), n + d = 200 → k < g.1.length → wB (fb g) 200 k0 = w ++ wB (fb g) d k → w.length = n → (∀ (i y : Nat), w[i]? = some y → μ1 (34 + 6 * j) i = (y : Int)) → (∀ q, q ≠ 34 + 6 * j → μ1 q = μ q) → zU Γ b_Y_writeWord n_Y 4 none [] (zRm 1 0 21) 0 0 (zFin Γ 0 false (zRv (fun μ' => sWd g K (μ' (33 + 6 * j) 3) (μ' (34 + 6 * j)) ∧ (∀ i, i ≠ 3 → μ' (33 + 6 * j) i = μ (33 + 6 * j) i) ∧ ∀ q, q ≠ 33 + 6 * j → q ≠ 34 + 6 * j → μ' q = μ q))) false 0 μ1 17 [some (zp 26), some (zp (33 + 6 * j)), some (zi ((k + 1 : Nat) : Int)), some (zi (n : Int))] [] := by
      intro d
      induction d using Nat.strongRecOn with
      | _ d ih17 =>
        intro n k μ1 w hd hk hw hwl hwv hq
        refine zU_iload_n d_Y_writeWord_17 rfl ?_
        refine zU_iconst d_Y_writeWord_18 ?_
        refine zU_icmp_le 66 d_Y_writeWord_19 (by decide) (by omega) (by omega) (fun h19 => ?_) (fun h19 => ?_)
        · refine zU_aload_n d_Y_writeWord_66 rfl ?_
          refine zU_iload_n d_Y_writeWord_67 rfl ?_
          refine zU_putI d_Y_writeWord_68 f_Y_129 p_S_wordLength (zSl0 h_j) (zSk0 h_j) rfl (Or.inl rfl) ?_
          exact zU_return d_Y_writeWord_71 rfl (by decide) (by decide) (⟨rfl, Or.inr ⟨k0, hk0, hKk, hKj, by have hw0 : wB (fb g) d k = [] := (by cases d; rfl; simp only [wB]; rw [if_pos (by omega)]); rw [hw0, List.append_nil] at hw; rw [hw, hwl, zup_at]; simp, by have hw0 : wB (fb g) d k = [] := (by cases d; rfl; simp only [wB]; rw [if_pos (by omega)]); rw [hw0, List.append_nil] at hw; rw [hw, zup_ne _ _ _ (by omega)]; exact hwv⟩, fun i hi => by rw [zup_at]; simp [hi]; rw [hq _ (by omega)], fun q q1 q2 => by rw [zup_ne _ _ _ q1]; exact hq q q2⟩)
        · refine zU_iload_n d_Y_writeWord_22 rfl ?_
          refine zU_sipush d_Y_writeWord_23 (by decide) ?_
          refine zU_icmp_ge 66 d_Y_writeWord_26 (by decide) (by omega) (by omega) (fun h26 => ?_) (fun h26 => ?_)
          · refine zU_aload_n d_Y_writeWord_66 rfl ?_
            refine zU_iload_n d_Y_writeWord_67 rfl ?_
            refine zU_putI d_Y_writeWord_68 f_Y_129 p_S_wordLength (zSl0 h_j) (zSk0 h_j) rfl (Or.inl rfl) ?_
            exact zU_return d_Y_writeWord_71 rfl (by decide) (by decide) (⟨rfl, Or.inr ⟨k0, hk0, hKk, hKj, by have hw0 : wB (fb g) d k = [] := (by cases d; rfl; simp only [wB]; rw [if_pos (by omega)]); rw [hw0, List.append_nil] at hw; rw [hw, hwl, zup_at]; simp, by have hw0 : wB (fb g) d k = [] := (by cases d; rfl; simp only [wB]; rw [if_pos (by omega)]); rw [hw0, List.append_nil] at hw; rw [hw, zup_ne _ _ _ (by omega)]; exact hwv⟩, fun i hi => by rw [zup_at]; simp [hi]; rw [hq _ (by omega)], fun q q1 q2 => by rw [zup_ne _ _ _ q1]; exact hq q q2⟩)
          · obtain ⟨d, rfl⟩ : ∃ d', d = d' + 1 := ⟨d - 1, by omega⟩
            have hf := hF k (by omega) hk
            have hfx : μ1 21 (k + 1) = ((fb g k : Nat) : Int) := by rw [hq 21 (by omega)]; exact fb_eq hG hk
            obtain ⟨x, hxe⟩ : ∃ x, x = fb g k := ⟨_, rfl⟩
            rw [← hxe] at hf hfx
            refine zU_aload_n d_Y_writeWord_29 rfl ?_
            refine zU_getR (34 + 6 * j) d_Y_writeWord_30 f_Y_132 (zSl0 h_j) (zSk0 h_j) rfl (zSr4 h_j) ?_
            refine zU_iload_n d_Y_writeWord_33 rfl ?_
            refine zU_aload_n d_Y_writeWord_34 rfl ?_
            refine zU_getR 15 d_Y_writeWord_35 f_Y_25 (by decide) rfl rfl rfl ?_
            refine zU_getR 21 d_Y_writeWord_38 f_Y_135 (by decide) rfl rfl rfl ?_
            refine zU_iload_n d_Y_writeWord_41 rfl ?_
            refine zU_iald (v := ((x : Nat) : Int)) d_Y_writeWord_42 (by decide) rfl (by decide) (by omega) (hfx) ?_
            refine zU_bipush d_Y_writeWord_43 (by decide) ?_
            refine zU_irem d_Y_writeWord_45 (by omega) (by omega) ?_
            refine zU_iast d_Y_writeWord_46 (zSl1 h_j) (zSk1 h_j) (by decide) (by omega) ?_
            refine zU.eqM (μ' := zup μ1 (34 + 6 * j) n ((x % 12 : Nat) : Int)) rfl ?_
            refine zU_aload_n d_Y_writeWord_47 rfl ?_
            refine zU_getR 15 d_Y_writeWord_48 f_Y_25 (by decide) rfl rfl rfl ?_
            refine zU_getR 21 d_Y_writeWord_51 f_Y_135 (by decide) rfl rfl rfl ?_
            refine zU_iload_n d_Y_writeWord_54 rfl ?_
            refine zU_iald (v := ((x : Nat) : Int)) d_Y_writeWord_55 (by decide) rfl (by decide) (by omega) (by rw [zup_ne _ _ _ (by omega)]; exact hfx) ?_
            refine zU_bipush d_Y_writeWord_56 (by decide) ?_
            refine zU_idiv d_Y_writeWord_58 (by omega) (by omega) ?_
            refine zU_istore_n d_Y_writeWord_59 (by decide) ?_
            refine zU.eqL (L' := [some (zp 26), some (zp (33 + 6 * j)), some (zi ((((x : Nat) : Int)) / 12)), some (zi (n : Int))]) rfl ?_
            refine zU.eqL (L' := [some (zp 26), some (zp (33 + 6 * j)), some (zi ((x / 12 - 1 + 1 : Nat) : Int)), some (zi (n : Int))]) (congrArg (fun zz : Int => [some (zp 26), some (zp (33 + 6 * j)), some (zi zz), some (zi (n : Int))]) (show ((x : Int) / 12) = ((x / 12 - 1 + 1 : Nat) : Int) by omega)) ?_
            refine zU_iinc d_Y_writeWord_60 rfl ?_
            refine zU.eqL (L' := [some (zp 26), some (zp (33 + 6 * j)), some (zi ((x / 12 - 1 + 1 : Nat) : Int)), some (zi (((n + 1 : Nat) : Int)))]) (by first | rfl | exact congrArg (fun zz : Int => [some (zp 26), some (zp (33 + 6 * j)), some (zi ((x / 12 - 1 + 1 : Nat) : Int)), some (zi zz)]) (show ((n : Int) + 1 : Int) = ((n + 1 : Nat) : Int) by omega)) ?_
            refine zU_goto 17 d_Y_writeWord_63 (by decide) ?_
            exact ih17 d (by omega) (n + 1) (x / 12 - 1) _ (w ++ [x % 12]) (by omega) (by omega) (by rw [hw]; simp only [wB]; rw [if_neg (by omega), ← hxe]; simp) (by simp [hwl]) (pre_add hwv (fun i => by rw [zup_at, hwl]; by_cases h : i = n <;> simp [h])) (fun q q1 => by rw [zup_ne _ _ _ q1]; exact hq q q1)
    refine zU.loose ?_
    exact hJ17 200 0 k0 μ [] (by omega) hk0 rfl rfl (fun i y h => by simp at h) (fun _ _ => rfl)
  · refine zU_aload_n d_Y_writeWord_9 rfl ?_
    refine zU_iconst d_Y_writeWord_10 ?_
    refine zU_putI d_Y_writeWord_11 f_Y_129 p_S_wordLength (zSl0 h_j) (zSk0 h_j) rfl (Or.inl rfl) ?_
    exact zU_return d_Y_writeWord_14 rfl (by decide) (by decide) (⟨rfl, Or.inl ⟨by rw [zup_at]; simp, by rcases h1 with ⟨-, h⟩ | ⟨k, -, h, -⟩; exact h; exact absurd h6 (by omega)⟩, fun i hi => by rw [zup_at]; simp [hi], fun q q1 _ => by rw [zup_ne _ _ _ q1]⟩)
end
