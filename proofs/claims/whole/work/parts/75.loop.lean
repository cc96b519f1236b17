/-! the law's loop -/
theorem law_go {Γ : zG} {N : Nat} {xs : Nat → Int32} {k0 s0 : Nat} {Fn : State → Prop} (hs : zScr Γ N xs) (hL : N ≤ 2560) (hk : k0 + 1600 ≤ 601024 ∧ s0 + 9600 ≤ 7293034) (hE : ∀ (n : Nat) (μ : zM) (i : Int), n ≤ 1545 → zU Γ b_L_law n_L 7 (some .boolean) [] room_1 k0 s0 Fn false n μ 1113 [some (zp 77), some (zp 0), some (zp 51), some (zp 76), some (zi (i)), none, none] []) :
    ∀ (d j : Nat) (a : aT) (v : vT) (μ : zM), 5 * j + d = N + 5 → cWor a v μ → rWor a v μ → zU Γ b_L_law n_L 7 (some .boolean) [] room_1 k0 s0 Fn false (3 * j) μ 23 [some (zp 77), some (zp 0), some (zp 51), some (zp 76), some (zi (((5 * j : Nat) : Int))), none, none] [] := by
  intro d
  induction d using Nat.strongRecOn with
  | _ d ih =>
    intro j a v μ hd hC hR
    have hL2 : N ≤ 2147483647 := by omega
    refine zU_iload d_L_law_23 rfl ?_
    refine zU_aload_n d_L_law_25 rfl ?_
    refine zU_slen hs d_L_law_26 ?_
    refine zU_iconst d_L_law_27 ?_
    refine zU_isub d_L_law_28 ?_
    refine zU_icmp_gt 1113 d_L_law_29 (by decide) (by omega) (by omega) (fun h29 => ?_) (fun h29 => ?_)
    · exact hE _ _ _ (by omega)
    · have hi : 0 ≤ ((5 * j : Nat) : Int) ∧ ((5 * j : Nat) : Int) + 5 ≤ N := by omega
      have hn : 3 * j + k0 + 9 ≤ 601024 ∧ 6 * (3 * j) + s0 + 54 ≤ 7293034 := by omega
      have hK : ∀ (a' : aT) (v' : vT) (μ' : zM), cWor a' v' μ' → rWor a' v' μ' → zU Γ b_L_law n_L 7 (some .boolean) [] room_1 k0 s0 Fn false (3 * j + 3) μ' 1107 [some (zp 77), some (zp 0), some (zp 51), some (zp 76), some (zi (((5 * j : Nat) : Int))), none, none] [] := by
        intro a' v' μ' h1 h2
        refine zU_iinc d_L_law_1107 rfl ?_
        refine zU.eqL (L' := [some (zp 77), some (zp 0), some (zp 51), some (zp 76), some (zi (((5 * (j + 1) : Nat) : Int))), none, none]) (congrArg (fun zz : Int => [some (zp 77), some (zp 0), some (zp 51), some (zp 76), some (zi (zz)), none, none]) (show (((5 * j : Nat) : Int) + 5 : Int) = ((5 * (j + 1) : Nat) : Int) by omega)) ?_
        refine zU_goto 23 d_L_law_1110 (by decide) ?_
        exact ih (d - 5) (by omega) (j + 1) a' v' μ' (by omega) h1 h2
      refine zU_aload_n d_L_law_32 rfl ?_
      refine zU_iload d_L_law_33 rfl ?_
      refine zU_sld hs hL2 d_L_law_35 (by omega) ?_
      refine zU_bipush d_L_law_36 (by decide) ?_
      refine zU_iand d_L_law_38 ?_
      have h31 := zand31 (sx xs ((5 * j : Nat) : Int))
      generalize zand (sx xs ((5 * j : Nat) : Int)) 31 = w at h31
      by_cases hw : 17 < w
      · refine zU_tabOut 1107 d_L_law_39 (by omega) (Or.inr hw) (by decide) ?_
        refine zU.widen (n' := 3 * j + 3) (by omega) ?_
        exact hK a v μ hC hR
      by_cases h0 : w = 0
      · subst h0
        refine zU_tabIn 124 d_L_law_39 (by omega) (by omega) (by omega) (off := 85) rfl (by decide) ?_
        exact law_c0 hs hL2 hi hn hC hR hK
      by_cases h1 : w = 1
      · subst h1
        refine zU_tabIn 192 d_L_law_39 (by omega) (by omega) (by omega) (off := 153) rfl (by decide) ?_
        exact law_c1 hs hL2 hi hn hC hR hK
      by_cases h2 : w = 2
      · subst h2
        refine zU_tabIn 283 d_L_law_39 (by omega) (by omega) (by omega) (off := 244) rfl (by decide) ?_
        exact law_c2 hs hL2 hi hn hC hR hK
      by_cases h3 : w = 3
      · subst h3
        refine zU_tabIn 355 d_L_law_39 (by omega) (by omega) (by omega) (off := 316) rfl (by decide) ?_
        exact law_c3 hs hL2 hi hn hC hR hK
      by_cases h4 : w = 4
      · subst h4
        refine zU_tabIn 443 d_L_law_39 (by omega) (by omega) (by omega) (off := 404) rfl (by decide) ?_
        exact law_c4 hs hL2 hi hn hC hR hK
      by_cases h5 : w = 5
      · subst h5
        refine zU_tabIn 454 d_L_law_39 (by omega) (by omega) (by omega) (off := 415) rfl (by decide) ?_
        exact law_c5 hs hL2 hi hn hC hR hK
      by_cases h6 : w = 6
      · subst h6
        refine zU_tabIn 467 d_L_law_39 (by omega) (by omega) (by omega) (off := 428) rfl (by decide) ?_
        exact law_c6 hs hL2 hi hn hC hR hK
      by_cases h7 : w = 7
      · subst h7
        refine zU_tabIn 535 d_L_law_39 (by omega) (by omega) (by omega) (off := 496) rfl (by decide) ?_
        exact law_c7 hs hL2 hi hn hC hR hK
      by_cases h8 : w = 8
      · subst h8
        refine zU_tabIn 603 d_L_law_39 (by omega) (by omega) (by omega) (off := 564) rfl (by decide) ?_
        exact law_c8 hs hL2 hi hn hC hR hK
      by_cases h9 : w = 9
      · subst h9
        refine zU_tabIn 671 d_L_law_39 (by omega) (by omega) (by omega) (off := 632) rfl (by decide) ?_
        exact law_c9 hs hL2 hi hn hC hR hK
      by_cases h10 : w = 10
      · subst h10
        refine zU_tabIn 727 d_L_law_39 (by omega) (by omega) (by omega) (off := 688) rfl (by decide) ?_
        exact law_c10 hs hL2 hi hn hC hR hK
      by_cases h11 : w = 11
      · subst h11
        refine zU_tabIn 771 d_L_law_39 (by omega) (by omega) (by omega) (off := 732) rfl (by decide) ?_
        exact law_c11 hs hL2 hi hn hC hR hK
      by_cases h12 : w = 12
      · subst h12
        refine zU_tabIn 827 d_L_law_39 (by omega) (by omega) (by omega) (off := 788) rfl (by decide) ?_
        exact law_c12 hs hL2 hi hn hC hR hK
      by_cases h13 : w = 13
      · subst h13
        refine zU_tabIn 895 d_L_law_39 (by omega) (by omega) (by omega) (off := 856) rfl (by decide) ?_
        exact law_c13 hs hL2 hi hn hC hR hK
      by_cases h14 : w = 14
      · subst h14
        refine zU_tabIn 951 d_L_law_39 (by omega) (by omega) (by omega) (off := 912) rfl (by decide) ?_
        exact law_c14 hs hL2 hi hn hC hR hK
      by_cases h15 : w = 15
      · subst h15
        refine zU_tabIn 975 d_L_law_39 (by omega) (by omega) (by omega) (off := 936) rfl (by decide) ?_
        exact law_c15 hs hL2 hi hn hC hR hK
      by_cases h16 : w = 16
      · subst h16
        refine zU_tabIn 1019 d_L_law_39 (by omega) (by omega) (by omega) (off := 980) rfl (by decide) ?_
        exact law_c16 hs hL2 hi hn hC hR hK
      have h17 : w = 17 := by omega
      subst h17
      refine zU_tabIn 1063 d_L_law_39 (by omega) (by omega) (by omega) (off := 1024) rfl (by decide) ?_
      exact law_c17 hs hL2 hi hn hC hR hK
