set_option maxRecDepth 100000 in
set_option maxHeartbeats 4000000 in
theorem law_c0 {Γ : zG} {N : Nat} {xs : Nat → Int32} {k0 s0 : Nat} {Fn : State → Prop} {n : Nat} {i : Int} {a : aT} {v : vT} {μ : zM} (hs : zScr Γ N xs) (hL : N ≤ 2147483647) (hi : 0 ≤ i ∧ i + 5 ≤ N) (hn : n + k0 + 9 ≤ 601024 ∧ 6 * n + s0 + 54 ≤ 7293034) (hC0 : cWor a v μ) (hR0 : rWor a v μ)
    (hK : ∀ (a' : aT) (v' : vT) (μ' : zM), cWor a' v' μ' → rWor a' v' μ' → zU Γ b_L_law n_L 7 (some .boolean) [] room_1 k0 s0 Fn false (n + 3) μ' 1107 [some (zp 77), some (zp 0), some (zp 51), some (zp 76), some (zi i), none, none] []) :
    zU Γ b_L_law n_L 7 (some .boolean) [] room_1 k0 s0 Fn false n μ 124 [some (zp 77), some (zp 0), some (zp 51), some (zp 76), some (zi i), none, none] [] := by
  refine zU_aload_n d_L_law_124 rfl ?_
  refine zU_aload_n d_L_law_125 rfl ?_
  refine zU_iload d_L_law_126 rfl ?_
  refine zU_iconst d_L_law_128 ?_
  refine zU_iadd d_L_law_129 ?_
  refine zU_sld hs hL d_L_law_130 (by omega) ?_
  refine zU_aload_n d_L_law_131 rfl ?_
  refine zU_iload d_L_law_132 rfl ?_
  refine zU_iconst d_L_law_134 ?_
  refine zU_iadd d_L_law_135 ?_
  refine zU_sld hs hL d_L_law_136 (by omega) ?_
  refine zU_aload_n d_L_law_137 rfl ?_
  refine zU_callSi [zp 0, zi (sx xs (i + 1)), zi (sx xs (i + 2)), zp 76] d_L_law_138 k_L_73 rfl ⟨by decide, by decide, by show _ ≤ 601024; omega, by show _ ≤ 7293034; omega⟩ (Nat.le_of_ble_eq_true rfl) (fun l => m_L_automaton l μ hC0 (sx_r xs _) (sx_r xs _)) (fun r138 μ138 h138 => ?_)
  obtain ⟨⟨r1, a1, v1, hA1, hC1, hr1⟩, hq1⟩ := h138
  have ht1 : 0 ≤ r138 ∧ r138 ≤ 2 := by rcases hA1 with ⟨h, _⟩ | ⟨h, _⟩ | ⟨h, _⟩ <;> omega
  have hR1 : rWor a v μ138 := rWor_fr2 hR0 hq1
  refine zU_istore d_L_law_141 (by decide) ?_
  refine zU.eqL (L' := [some (zp 77), some (zp 0), some (zp 51), some (zp 76), some (zi i), some (zi (r138)), none]) rfl ?_
  refine zU_aload_n d_L_law_143 rfl ?_
  refine zU_aload_n d_L_law_144 rfl ?_
  refine zU_iload d_L_law_145 rfl ?_
  refine zU_iconst d_L_law_147 ?_
  refine zU_iadd d_L_law_148 ?_
  refine zU_sld hs hL d_L_law_149 (by omega) ?_
  refine zU_aload_n d_L_law_150 rfl ?_
  refine zU_iload d_L_law_151 rfl ?_
  refine zU_iconst d_L_law_153 ?_
  refine zU_iadd d_L_law_154 ?_
  refine zU_sld hs hL d_L_law_155 (by omega) ?_
  refine zU_callVi (p0 := 51) [zi (sx xs (i + 1)), zi (sx xs (i + 2))] d_L_law_156 k_L_78 rfl (by decide) rfl rfl ⟨by decide, by decide, by show _ ≤ 601024; omega, by show _ ≤ 7293034; omega⟩ (Nat.le_of_ble_eq_true rfl) (fun l => m_R_automatonW l μ138 hR1 (sx_r xs _) (sx_r xs _)) (fun r156 μ156 h156 => ?_)
  obtain ⟨⟨a2, v2, hA2, hR2⟩, hq2⟩ := h156
  obtain ⟨hte, hre, hae, hve⟩ := aAuto_un hA1 hA2
  subst hae
  subst hve
  have hC2 := cWor_fr hC1 (fun q hq => hq2 q (Or.inl hq))
  have h76 : μ156 76 = μ138 76 := hq2 76 (Or.inr rfl)
  refine zU_istore d_L_law_159 (by decide) ?_
  refine zU.eqL (L' := [some (zp 77), some (zp 0), some (zp 51), some (zp 76), some (zi i), some (zi (r138)), some (zi (r156))]) rfl ?_
  refine zU_aload_n d_L_law_161 rfl ?_
  refine zU_callVi (p0 := 51) [] d_L_law_162 k_L_79 rfl (by decide) rfl rfl ⟨by decide, by decide, by show _ ≤ 601024; omega, by show _ ≤ 7293034; omega⟩ (Nat.le_of_ble_eq_true rfl) (fun l => m_R_thrown l μ156) (fun r162 μ162 h162 => ?_)
  obtain ⟨hμ162, rfl⟩ := h162
  replace hμ162 := hμ162.symm
  subst hμ162
  refine zU_iload d_L_law_165 rfl ?_
  refine zU_icmp_eq 172 d_L_law_167 (by decide) (by omega) (by omega) (fun h167 => ?_) (fun h167 => ?_)
  · refine zU_iload d_L_law_172 rfl ?_
    refine zU_if_ne 189 d_L_law_174 (by decide) (by omega) (fun h174 => ?_) (fun h174 => ?_)
    · refine zU_goto 1107 d_L_law_189 (by decide) ?_
      refine zU.drop 5 (L' := [some (zp 77), some (zp 0), some (zp 51), some (zp 76), some (zi i), none, some (zi (r156))]) rfl ?_
      refine zU.drop 6 (L' := [some (zp 77), some (zp 0), some (zp 51), some (zp 76), some (zi i), none, none]) rfl ?_
      refine zU.widen (n' := n + 3) (by omega) ?_
      exact hK _ _ _ hC2 hR2
    · refine zU_aload_n d_L_law_177 rfl ?_
      refine zU_iconst d_L_law_178 ?_
      refine zU_lald (v := r1) d_L_law_179 (by decide) rfl (by decide) (by omega) (by rw [h76]; exact (hr1 h174).1) ?_
      refine zU_iload d_L_law_180 rfl ?_
      refine zU_i2l d_L_law_182 (by have h8 := hr1 h174; have h9 := hre h174; omega) ?_
      refine zU_lcmp d_L_law_183 (by have h8 := hr1 h174; have h9 := hre h174; omega) (by have h8 := hr1 h174; have h9 := hre h174; omega) ?_
      refine zU_if_eq 189 d_L_law_184 (by decide) (lc_r _ _) (fun h184 => ?_) (fun h184 => ?_)
      · refine zU_goto 1107 d_L_law_189 (by decide) ?_
        refine zU.drop 5 (L' := [some (zp 77), some (zp 0), some (zp 51), some (zp 76), some (zi i), none, some (zi (r156))]) rfl ?_
        refine zU.drop 6 (L' := [some (zp 77), some (zp 0), some (zp 51), some (zp 76), some (zi i), none, none]) rfl ?_
        refine zU.widen (n' := n + 3) (by omega) ?_
        exact hK _ _ _ hC2 hR2
      · exact absurd (lc_0 (hre h174)) h184
  · exact absurd hte.symm h167
set_option maxRecDepth 100000 in
set_option maxHeartbeats 4000000 in
theorem law_c1 {Γ : zG} {N : Nat} {xs : Nat → Int32} {k0 s0 : Nat} {Fn : State → Prop} {n : Nat} {i : Int} {a : aT} {v : vT} {μ : zM} (hs : zScr Γ N xs) (hL : N ≤ 2147483647) (hi : 0 ≤ i ∧ i + 5 ≤ N) (hn : n + k0 + 9 ≤ 601024 ∧ 6 * n + s0 + 54 ≤ 7293034) (hC0 : cWor a v μ) (hR0 : rWor a v μ)
    (hK : ∀ (a' : aT) (v' : vT) (μ' : zM), cWor a' v' μ' → rWor a' v' μ' → zU Γ b_L_law n_L 7 (some .boolean) [] room_1 k0 s0 Fn false (n + 3) μ' 1107 [some (zp 77), some (zp 0), some (zp 51), some (zp 76), some (zi i), none, none] []) :
    zU Γ b_L_law n_L 7 (some .boolean) [] room_1 k0 s0 Fn false n μ 192 [some (zp 77), some (zp 0), some (zp 51), some (zp 76), some (zi i), none, none] [] := by
  refine zU_aload_n d_L_law_192 rfl ?_
  refine zU_aload_n d_L_law_193 rfl ?_
  refine zU_iload d_L_law_194 rfl ?_
  refine zU_iconst d_L_law_196 ?_
  refine zU_iadd d_L_law_197 ?_
  refine zU_sld hs hL d_L_law_198 (by omega) ?_
  refine zU_aload_n d_L_law_199 rfl ?_
  refine zU_iload d_L_law_200 rfl ?_
  refine zU_iconst d_L_law_202 ?_
  refine zU_iadd d_L_law_203 ?_
  refine zU_sld hs hL d_L_law_204 (by omega) ?_
  have hJ213 : zU Γ b_L_law n_L 7 (some .boolean) [] room_1 k0 s0 Fn false n μ 213 [some (zp 77), some (zp 0), some (zp 51), some (zp 76), some (zi i), none, none] [zi (zB (decide (sx xs (i + 2) ≠ 0))), zi (sx xs (i + 1)), zp 0] := by
    refine zU_aload_n d_L_law_213 rfl ?_
    refine zU_callSi [zp 0, zi (sx xs (i + 1)), zi (zB (decide (sx xs (i + 2) ≠ 0))), zp 76] d_L_law_214 k_L_82 rfl ⟨by decide, by decide, by show _ ≤ 601024; omega, by show _ ≤ 7293034; omega⟩ (Nat.le_of_ble_eq_true rfl) (fun l => m_L_event l μ hC0 (on := decide (sx xs (i + 2) ≠ 0)) (sx_r xs _)) (fun r214 μ214 h214 => ?_)
    obtain ⟨⟨r1, a1, v1, hA1, hC1, hr1⟩, hq1⟩ := h214
    have ht1 : 0 ≤ r214 ∧ r214 ≤ 2 := by rcases hA1 with ⟨h, _⟩ | ⟨h, _⟩ | ⟨h, _⟩ <;> omega
    have hR1 : rWor a v μ214 := rWor_fr2 hR0 hq1
    refine zU_istore d_L_law_217 (by decide) ?_
    refine zU.eqL (L' := [some (zp 77), some (zp 0), some (zp 51), some (zp 76), some (zi i), some (zi (r214)), none]) rfl ?_
    refine zU_aload_n d_L_law_219 rfl ?_
    refine zU_aload_n d_L_law_220 rfl ?_
    refine zU_iload d_L_law_221 rfl ?_
    refine zU_iconst d_L_law_223 ?_
    refine zU_iadd d_L_law_224 ?_
    refine zU_sld hs hL d_L_law_225 (by omega) ?_
    refine zU_aload_n d_L_law_226 rfl ?_
    refine zU_iload d_L_law_227 rfl ?_
    refine zU_iconst d_L_law_229 ?_
    refine zU_iadd d_L_law_230 ?_
    refine zU_sld hs hL d_L_law_231 (by omega) ?_
    have hJ240 : zU Γ b_L_law n_L 7 (some .boolean) [] room_1 k0 s0 Fn false (n + 2) μ214 240 [some (zp 77), some (zp 0), some (zp 51), some (zp 76), some (zi i), some (zi (r214)), none] [zi (zB (decide (sx xs (i + 2) ≠ 0))), zi (sx xs (i + 1)), zp 51] := by
      refine zU_callVi (p0 := 51) [zi (sx xs (i + 1)), zi (zB (decide (sx xs (i + 2) ≠ 0)))] d_L_law_240 k_L_85 rfl (by decide) rfl rfl ⟨by decide, by decide, by show _ ≤ 601024; omega, by show _ ≤ 7293034; omega⟩ (Nat.le_of_ble_eq_true rfl) (fun l => m_R_eventW l μ214 hR1 (on := decide (sx xs (i + 2) ≠ 0)) (sx_r xs _)) (fun r240 μ240 h240 => ?_)
      obtain ⟨⟨a2, v2, hA2, hR2, hb2'⟩, hq2⟩ := h240
      obtain ⟨hte, hre, hae, hve⟩ := aEvt_un hA1 hA2
      subst hae
      subst hve
      have hb2 : r214 = 0 → r240 = 0 ∨ r240 = 1 := fun h => by omega
      have hC2 := cWor_fr hC1 (fun q hq => hq2 q (Or.inl hq))
      have h76 : μ240 76 = μ214 76 := hq2 76 (Or.inr rfl)
      refine zU_istore d_L_law_243 (by decide) ?_
      refine zU.eqL (L' := [some (zp 77), some (zp 0), some (zp 51), some (zp 76), some (zi i), some (zi (r214)), some (zi (r240))]) rfl ?_
      refine zU_aload_n d_L_law_245 rfl ?_
      refine zU_callVi (p0 := 51) [] d_L_law_246 k_L_79 rfl (by decide) rfl rfl ⟨by decide, by decide, by show _ ≤ 601024; omega, by show _ ≤ 7293034; omega⟩ (Nat.le_of_ble_eq_true rfl) (fun l => m_R_thrown l μ240) (fun r246 μ246 h246 => ?_)
      obtain ⟨hμ246, rfl⟩ := h246
      replace hμ246 := hμ246.symm
      subst hμ246
      refine zU_iload d_L_law_249 rfl ?_
      refine zU_icmp_eq 256 d_L_law_251 (by decide) (by omega) (by omega) (fun h251 => ?_) (fun h251 => ?_)
      · refine zU_iload d_L_law_256 rfl ?_
        refine zU_if_ne 280 d_L_law_258 (by decide) (by omega) (fun h258 => ?_) (fun h258 => ?_)
        · refine zU_goto 1107 d_L_law_280 (by decide) ?_
          refine zU.drop 5 (L' := [some (zp 77), some (zp 0), some (zp 51), some (zp 76), some (zi i), none, some (zi (r240))]) rfl ?_
          refine zU.drop 6 (L' := [some (zp 77), some (zp 0), some (zp 51), some (zp 76), some (zi i), none, none]) rfl ?_
          refine zU.widen (n' := n + 3) (by omega) ?_
          exact hK _ _ _ hC2 hR2
        · refine zU_aload_n d_L_law_261 rfl ?_
          refine zU_iconst d_L_law_262 ?_
          refine zU_lald (v := r1) d_L_law_263 (by decide) rfl (by decide) (by omega) (by rw [h76]; exact (hr1 h258).1) ?_
          refine zU_iload d_L_law_264 rfl ?_
          refine zU_if_eq 273 d_L_law_266 (by decide) (by have h8 := hr1 h258; have h9 := hre h258; omega) (fun h266 => ?_) (fun h266 => ?_)
          · refine zU_lconst (v := 0) d_L_law_273 rfl ?_
            refine zU_lcmp d_L_law_274 (by have h8 := hr1 h258; have h9 := hre h258; omega) (by have h8 := hr1 h258; have h9 := hre h258; omega) ?_
            refine zU_if_eq 280 d_L_law_275 (by decide) (lc_r _ _) (fun h275 => ?_) (fun h275 => ?_)
            · refine zU_goto 1107 d_L_law_280 (by decide) ?_
              refine zU.drop 5 (L' := [some (zp 77), some (zp 0), some (zp 51), some (zp 76), some (zi i), none, some (zi (r240))]) rfl ?_
              refine zU.drop 6 (L' := [some (zp 77), some (zp 0), some (zp 51), some (zp 76), some (zi i), none, none]) rfl ?_
              refine zU.widen (n' := n + 3) (by omega) ?_
              exact hK _ _ _ hC2 hR2
            · exact absurd (lc_0 (by have h7 := hb2 h258; have h9 := hre h258; omega)) h275
          · refine zU_lconst (v := 1) d_L_law_269 rfl ?_
            refine zU_goto 274 d_L_law_270 (by decide) ?_
            refine zU_lcmp d_L_law_274 (by have h8 := hr1 h258; have h9 := hre h258; omega) (by have h8 := hr1 h258; have h9 := hre h258; omega) ?_
            refine zU_if_eq 280 d_L_law_275 (by decide) (lc_r _ _) (fun h275 => ?_) (fun h275 => ?_)
            · refine zU_goto 1107 d_L_law_280 (by decide) ?_
              refine zU.drop 5 (L' := [some (zp 77), some (zp 0), some (zp 51), some (zp 76), some (zi i), none, some (zi (r240))]) rfl ?_
              refine zU.drop 6 (L' := [some (zp 77), some (zp 0), some (zp 51), some (zp 76), some (zi i), none, none]) rfl ?_
              refine zU.widen (n' := n + 3) (by omega) ?_
              exact hK _ _ _ hC2 hR2
            · exact absurd (lc_0 (by have h7 := hb2 h258; have h9 := hre h258; omega)) h275
      · exact absurd hte.symm h251
    refine zU_if_eq 239 d_L_law_232 (by decide) (sx_r xs _) (fun h232 => ?_) (fun h232 => ?_)
    · refine zU_iconst d_L_law_239 ?_
      refine zU.eqS (st' := [zi (zB (decide (sx xs (i + 2) ≠ 0))), zi (sx xs (i + 1)), zp 51]) (congrArg (fun zz : Int => [zi zz, zi (sx xs (i + 1)), zp 51]) (show (0 : Int) = zB (decide (sx xs (i + 2) ≠ 0)) from (zBf (by simp [h232])).symm)) ?_
      exact hJ240 
    · refine zU_iconst d_L_law_235 ?_
      refine zU_goto 240 d_L_law_236 (by decide) ?_
      refine zU.eqS (st' := [zi (zB (decide (sx xs (i + 2) ≠ 0))), zi (sx xs (i + 1)), zp 51]) (congrArg (fun zz : Int => [zi zz, zi (sx xs (i + 1)), zp 51]) (show (1 : Int) = zB (decide (sx xs (i + 2) ≠ 0)) from (zBt (by simp [h232])).symm)) ?_
      exact hJ240 
  refine zU_if_eq 212 d_L_law_205 (by decide) (sx_r xs _) (fun h205 => ?_) (fun h205 => ?_)
  · refine zU_iconst d_L_law_212 ?_
    refine zU.eqS (st' := [zi (zB (decide (sx xs (i + 2) ≠ 0))), zi (sx xs (i + 1)), zp 0]) (congrArg (fun zz : Int => [zi zz, zi (sx xs (i + 1)), zp 0]) (show (0 : Int) = zB (decide (sx xs (i + 2) ≠ 0)) from (zBf (by simp [h205])).symm)) ?_
    exact hJ213 
  · refine zU_iconst d_L_law_208 ?_
    refine zU_goto 213 d_L_law_209 (by decide) ?_
    refine zU.eqS (st' := [zi (zB (decide (sx xs (i + 2) ≠ 0))), zi (sx xs (i + 1)), zp 0]) (congrArg (fun zz : Int => [zi zz, zi (sx xs (i + 1)), zp 0]) (show (1 : Int) = zB (decide (sx xs (i + 2) ≠ 0)) from (zBt (by simp [h205])).symm)) ?_
    exact hJ213 
set_option maxRecDepth 100000 in
set_option maxHeartbeats 4000000 in
theorem law_c2 {Γ : zG} {N : Nat} {xs : Nat → Int32} {k0 s0 : Nat} {Fn : State → Prop} {n : Nat} {i : Int} {a : aT} {v : vT} {μ : zM} (hs : zScr Γ N xs) (hL : N ≤ 2147483647) (hi : 0 ≤ i ∧ i + 5 ≤ N) (hn : n + k0 + 9 ≤ 601024 ∧ 6 * n + s0 + 54 ≤ 7293034) (hC0 : cWor a v μ) (hR0 : rWor a v μ)
    (hK : ∀ (a' : aT) (v' : vT) (μ' : zM), cWor a' v' μ' → rWor a' v' μ' → zU Γ b_L_law n_L 7 (some .boolean) [] room_1 k0 s0 Fn false (n + 3) μ' 1107 [some (zp 77), some (zp 0), some (zp 51), some (zp 76), some (zi i), none, none] []) :
    zU Γ b_L_law n_L 7 (some .boolean) [] room_1 k0 s0 Fn false n μ 283 [some (zp 77), some (zp 0), some (zp 51), some (zp 76), some (zi i), none, none] [] := by
  refine zU_aload_n d_L_law_283 rfl ?_
  refine zU_aload_n d_L_law_284 rfl ?_
  refine zU_iload d_L_law_285 rfl ?_
  refine zU_iconst d_L_law_287 ?_
  refine zU_iadd d_L_law_288 ?_
  refine zU_sld hs hL d_L_law_289 (by omega) ?_
  refine zU_aload_n d_L_law_290 rfl ?_
  refine zU_iload d_L_law_291 rfl ?_
  refine zU_iconst d_L_law_293 ?_
  refine zU_iadd d_L_law_294 ?_
  refine zU_sld hs hL d_L_law_295 (by omega) ?_
  refine zU_aload_n d_L_law_296 rfl ?_
  refine zU_iload d_L_law_297 rfl ?_
  refine zU_iconst d_L_law_299 ?_
  refine zU_iadd d_L_law_300 ?_
  refine zU_sld hs hL d_L_law_301 (by omega) ?_
  refine zU_aload_n d_L_law_302 rfl ?_
  refine zU_iload d_L_law_303 rfl ?_
  refine zU_iconst d_L_law_305 ?_
  refine zU_iadd d_L_law_306 ?_
  refine zU_sld hs hL d_L_law_307 (by omega) ?_
  refine zU_callSi [zp 0, zi (sx xs (i + 1)), zi (sx xs (i + 2)), zi (sx xs (i + 3)), zi (sx xs (i + 4))] d_L_law_308 k_L_86 rfl ⟨by decide, by decide, by show _ ≤ 601024; omega, by show _ ≤ 7293034; omega⟩ (Nat.le_of_ble_eq_true rfl) (fun l => m_L_edge l μ hC0 (sx_r xs _) (sx_r xs _) (sx_r xs _) (sx_r xs _)) (fun r308 μ308 h308 => ?_)
  obtain ⟨⟨a1, v1, hA1, hC1⟩, hq1⟩ := h308
  have ht1 : 0 ≤ r308 ∧ r308 ≤ 2 := by rcases hA1 with ⟨h, _⟩ | ⟨h, _⟩ | ⟨h, _⟩ <;> omega
  have hR1 : rWor a v μ308 := rWor_fr2 hR0 (fun q h1 _ => hq1 q h1)
  refine zU_istore d_L_law_311 (by decide) ?_
  refine zU.eqL (L' := [some (zp 77), some (zp 0), some (zp 51), some (zp 76), some (zi i), some (zi (r308)), none]) rfl ?_
  refine zU_aload_n d_L_law_313 rfl ?_
  refine zU_aload_n d_L_law_314 rfl ?_
  refine zU_iload d_L_law_315 rfl ?_
  refine zU_iconst d_L_law_317 ?_
  refine zU_iadd d_L_law_318 ?_
  refine zU_sld hs hL d_L_law_319 (by omega) ?_
  refine zU_aload_n d_L_law_320 rfl ?_
  refine zU_iload d_L_law_321 rfl ?_
  refine zU_iconst d_L_law_323 ?_
  refine zU_iadd d_L_law_324 ?_
  refine zU_sld hs hL d_L_law_325 (by omega) ?_
  refine zU_aload_n d_L_law_326 rfl ?_
  refine zU_iload d_L_law_327 rfl ?_
  refine zU_iconst d_L_law_329 ?_
  refine zU_iadd d_L_law_330 ?_
  refine zU_sld hs hL d_L_law_331 (by omega) ?_
  refine zU_aload_n d_L_law_332 rfl ?_
  refine zU_iload d_L_law_333 rfl ?_
  refine zU_iconst d_L_law_335 ?_
  refine zU_iadd d_L_law_336 ?_
  refine zU_sld hs hL d_L_law_337 (by omega) ?_
  refine zU_callVv (p0 := 51) [zi (sx xs (i + 1)), zi (sx xs (i + 2)), zi (sx xs (i + 3)), zi (sx xs (i + 4))] d_L_law_338 k_L_89 rfl (by decide) rfl rfl ⟨by decide, by decide, by show _ ≤ 601024; omega, by show _ ≤ 7293034; omega⟩ (Nat.le_of_ble_eq_true rfl) (fun l => m_R_edgeW l μ308 hR1 (sx_r xs _) (sx_r xs _) (sx_r xs _) (sx_r xs _)) (fun μ338 h338 => ?_)
  obtain ⟨⟨a2, v2, hA2, hR2⟩, hq2⟩ := h338
  obtain ⟨hte, hae, hve⟩ := aEdg_un hA1 hA2
  subst hae
  subst hve
  have hC2 := cWor_fr hC1 (fun q hq => hq2 q (Or.inl hq))
  refine zU_aload_n d_L_law_341 rfl ?_
  refine zU_callVi (p0 := 51) [] d_L_law_342 k_L_79 rfl (by decide) rfl rfl ⟨by decide, by decide, by show _ ≤ 601024; omega, by show _ ≤ 7293034; omega⟩ (Nat.le_of_ble_eq_true rfl) (fun l => m_R_thrown l μ338) (fun r342 μ342 h342 => ?_)
  obtain ⟨hμ342, rfl⟩ := h342
  replace hμ342 := hμ342.symm
  subst hμ342
  refine zU_iload d_L_law_345 rfl ?_
  refine zU_icmp_eq 352 d_L_law_347 (by decide) (by omega) (by omega) (fun h347 => ?_) (fun h347 => ?_)
  · refine zU_goto 1107 d_L_law_352 (by decide) ?_
    refine zU.drop 5 (L' := [some (zp 77), some (zp 0), some (zp 51), some (zp 76), some (zi i), none, none]) rfl ?_
    refine zU.widen (n' := n + 3) (by omega) ?_
    exact hK _ _ _ hC2 hR2
  · exact absurd hte.symm h347
set_option maxRecDepth 100000 in
set_option maxHeartbeats 4000000 in
theorem law_c3 {Γ : zG} {N : Nat} {xs : Nat → Int32} {k0 s0 : Nat} {Fn : State → Prop} {n : Nat} {i : Int} {a : aT} {v : vT} {μ : zM} (hs : zScr Γ N xs) (hL : N ≤ 2147483647) (hi : 0 ≤ i ∧ i + 5 ≤ N) (hn : n + k0 + 9 ≤ 601024 ∧ 6 * n + s0 + 54 ≤ 7293034) (hC0 : cWor a v μ) (hR0 : rWor a v μ)
    (hK : ∀ (a' : aT) (v' : vT) (μ' : zM), cWor a' v' μ' → rWor a' v' μ' → zU Γ b_L_law n_L 7 (some .boolean) [] room_1 k0 s0 Fn false (n + 3) μ' 1107 [some (zp 77), some (zp 0), some (zp 51), some (zp 76), some (zi i), none, none] []) :
    zU Γ b_L_law n_L 7 (some .boolean) [] room_1 k0 s0 Fn false n μ 355 [some (zp 77), some (zp 0), some (zp 51), some (zp 76), some (zi i), none, none] [] := by
  refine zU_aload_n d_L_law_355 rfl ?_
  refine zU_aload_n d_L_law_356 rfl ?_
  refine zU_iload d_L_law_357 rfl ?_
  refine zU_iconst d_L_law_359 ?_
  refine zU_iadd d_L_law_360 ?_
  refine zU_sld hs hL d_L_law_361 (by omega) ?_
  refine zU_aload_n d_L_law_362 rfl ?_
  refine zU_iload d_L_law_363 rfl ?_
  refine zU_iconst d_L_law_365 ?_
  refine zU_iadd d_L_law_366 ?_
  refine zU_sld hs hL d_L_law_367 (by omega) ?_
  refine zU_aload_n d_L_law_368 rfl ?_
  refine zU_iload d_L_law_369 rfl ?_
  refine zU_iconst d_L_law_371 ?_
  refine zU_iadd d_L_law_372 ?_
  refine zU_sld hs hL d_L_law_373 (by omega) ?_
  refine zU_aload_n d_L_law_374 rfl ?_
  refine zU_iload d_L_law_375 rfl ?_
  refine zU_iconst d_L_law_377 ?_
  refine zU_iadd d_L_law_378 ?_
  refine zU_sld hs hL d_L_law_379 (by omega) ?_
  have hJ388 : zU Γ b_L_law n_L 7 (some .boolean) [] room_1 k0 s0 Fn false n μ 388 [some (zp 77), some (zp 0), some (zp 51), some (zp 76), some (zi i), none, none] [zi (zB (decide (sx xs (i + 4) ≠ 0))), zi (sx xs (i + 3)), zi (sx xs (i + 2)), zi (sx xs (i + 1)), zp 0] := by
    refine zU_callSi [zp 0, zi (sx xs (i + 1)), zi (sx xs (i + 2)), zi (sx xs (i + 3)), zi (zB (decide (sx xs (i + 4) ≠ 0)))] d_L_law_388 k_L_90 rfl ⟨by decide, by decide, by show _ ≤ 601024; omega, by show _ ≤ 7293034; omega⟩ (Nat.le_of_ble_eq_true rfl) (fun l => m_L_tell l μ hC0 (on := decide (sx xs (i + 4) ≠ 0)) (sx_r xs _) (sx_r xs _) (sx_r xs _)) (fun r388 μ388 h388 => ?_)
    obtain ⟨⟨a1, v1, hA1, hC1⟩, hq1⟩ := h388
    have ht1 : 0 ≤ r388 ∧ r388 ≤ 2 := by rcases hA1 with ⟨h, _⟩ | ⟨h, _⟩ <;> omega
    have hR1 : rWor a v μ388 := rWor_fr2 hR0 (fun q h1 _ => hq1 q h1)
    refine zU_istore d_L_law_391 (by decide) ?_
    refine zU.eqL (L' := [some (zp 77), some (zp 0), some (zp 51), some (zp 76), some (zi i), some (zi (r388)), none]) rfl ?_
    refine zU_aload_n d_L_law_393 rfl ?_
    refine zU_aload_n d_L_law_394 rfl ?_
    refine zU_iload d_L_law_395 rfl ?_
    refine zU_iconst d_L_law_397 ?_
    refine zU_iadd d_L_law_398 ?_
    refine zU_sld hs hL d_L_law_399 (by omega) ?_
    refine zU_aload_n d_L_law_400 rfl ?_
    refine zU_iload d_L_law_401 rfl ?_
    refine zU_iconst d_L_law_403 ?_
    refine zU_iadd d_L_law_404 ?_
    refine zU_sld hs hL d_L_law_405 (by omega) ?_
    refine zU_aload_n d_L_law_406 rfl ?_
    refine zU_iload d_L_law_407 rfl ?_
    refine zU_iconst d_L_law_409 ?_
    refine zU_iadd d_L_law_410 ?_
    refine zU_sld hs hL d_L_law_411 (by omega) ?_
    refine zU_aload_n d_L_law_412 rfl ?_
    refine zU_iload d_L_law_413 rfl ?_
    refine zU_iconst d_L_law_415 ?_
    refine zU_iadd d_L_law_416 ?_
    refine zU_sld hs hL d_L_law_417 (by omega) ?_
    have hJ426 : zU Γ b_L_law n_L 7 (some .boolean) [] room_1 k0 s0 Fn false (n + 1) μ388 426 [some (zp 77), some (zp 0), some (zp 51), some (zp 76), some (zi i), some (zi (r388)), none] [zi (zB (decide (sx xs (i + 4) ≠ 0))), zi (sx xs (i + 3)), zi (sx xs (i + 2)), zi (sx xs (i + 1)), zp 51] := by
      refine zU_callVv (p0 := 51) [zi (sx xs (i + 1)), zi (sx xs (i + 2)), zi (sx xs (i + 3)), zi (zB (decide (sx xs (i + 4) ≠ 0)))] d_L_law_426 k_L_93 rfl (by decide) rfl rfl ⟨by decide, by decide, by show _ ≤ 601024; omega, by show _ ≤ 7293034; omega⟩ (Nat.le_of_ble_eq_true rfl) (fun l => m_R_tellW l μ388 hR1 (on := decide (sx xs (i + 4) ≠ 0)) (sx_r xs _) (sx_r xs _) (sx_r xs _)) (fun μ426 h426 => ?_)
      obtain ⟨⟨a2, v2, hA2, hR2⟩, hq2⟩ := h426
      obtain ⟨hte, hae, hve⟩ := aTel_un hA1 hA2
      subst hae
      subst hve
      have hC2 := cWor_fr hC1 (fun q hq => hq2 q (Or.inl hq))
      refine zU_aload_n d_L_law_429 rfl ?_
      refine zU_callVi (p0 := 51) [] d_L_law_430 k_L_79 rfl (by decide) rfl rfl ⟨by decide, by decide, by show _ ≤ 601024; omega, by show _ ≤ 7293034; omega⟩ (Nat.le_of_ble_eq_true rfl) (fun l => m_R_thrown l μ426) (fun r430 μ430 h430 => ?_)
      obtain ⟨hμ430, rfl⟩ := h430
      replace hμ430 := hμ430.symm
      subst hμ430
      refine zU_iload d_L_law_433 rfl ?_
      refine zU_icmp_eq 440 d_L_law_435 (by decide) (by omega) (by omega) (fun h435 => ?_) (fun h435 => ?_)
      · refine zU_goto 1107 d_L_law_440 (by decide) ?_
        refine zU.drop 5 (L' := [some (zp 77), some (zp 0), some (zp 51), some (zp 76), some (zi i), none, none]) rfl ?_
        refine zU.widen (n' := n + 3) (by omega) ?_
        exact hK _ _ _ hC2 hR2
      · exact absurd hte.symm h435
    refine zU_if_eq 425 d_L_law_418 (by decide) (sx_r xs _) (fun h418 => ?_) (fun h418 => ?_)
    · refine zU_iconst d_L_law_425 ?_
      refine zU.eqS (st' := [zi (zB (decide (sx xs (i + 4) ≠ 0))), zi (sx xs (i + 3)), zi (sx xs (i + 2)), zi (sx xs (i + 1)), zp 51]) (congrArg (fun zz : Int => [zi zz, zi (sx xs (i + 3)), zi (sx xs (i + 2)), zi (sx xs (i + 1)), zp 51]) (show (0 : Int) = zB (decide (sx xs (i + 4) ≠ 0)) from (zBf (by simp [h418])).symm)) ?_
      exact hJ426 
    · refine zU_iconst d_L_law_421 ?_
      refine zU_goto 426 d_L_law_422 (by decide) ?_
      refine zU.eqS (st' := [zi (zB (decide (sx xs (i + 4) ≠ 0))), zi (sx xs (i + 3)), zi (sx xs (i + 2)), zi (sx xs (i + 1)), zp 51]) (congrArg (fun zz : Int => [zi zz, zi (sx xs (i + 3)), zi (sx xs (i + 2)), zi (sx xs (i + 1)), zp 51]) (show (1 : Int) = zB (decide (sx xs (i + 4) ≠ 0)) from (zBt (by simp [h418])).symm)) ?_
      exact hJ426 
  refine zU_if_eq 387 d_L_law_380 (by decide) (sx_r xs _) (fun h380 => ?_) (fun h380 => ?_)
  · refine zU_iconst d_L_law_387 ?_
    refine zU.eqS (st' := [zi (zB (decide (sx xs (i + 4) ≠ 0))), zi (sx xs (i + 3)), zi (sx xs (i + 2)), zi (sx xs (i + 1)), zp 0]) (congrArg (fun zz : Int => [zi zz, zi (sx xs (i + 3)), zi (sx xs (i + 2)), zi (sx xs (i + 1)), zp 0]) (show (0 : Int) = zB (decide (sx xs (i + 4) ≠ 0)) from (zBf (by simp [h380])).symm)) ?_
    exact hJ388 
  · refine zU_iconst d_L_law_383 ?_
    refine zU_goto 388 d_L_law_384 (by decide) ?_
    refine zU.eqS (st' := [zi (zB (decide (sx xs (i + 4) ≠ 0))), zi (sx xs (i + 3)), zi (sx xs (i + 2)), zi (sx xs (i + 1)), zp 0]) (congrArg (fun zz : Int => [zi zz, zi (sx xs (i + 3)), zi (sx xs (i + 2)), zi (sx xs (i + 1)), zp 0]) (show (1 : Int) = zB (decide (sx xs (i + 4) ≠ 0)) from (zBt (by simp [h380])).symm)) ?_
    exact hJ388 
set_option maxRecDepth 100000 in
set_option maxHeartbeats 4000000 in
theorem law_c4 {Γ : zG} {N : Nat} {xs : Nat → Int32} {k0 s0 : Nat} {Fn : State → Prop} {n : Nat} {i : Int} {a : aT} {v : vT} {μ : zM} (hs : zScr Γ N xs) (hL : N ≤ 2147483647) (hi : 0 ≤ i ∧ i + 5 ≤ N) (hn : n + k0 + 9 ≤ 601024 ∧ 6 * n + s0 + 54 ≤ 7293034) (hC0 : cWor a v μ) (hR0 : rWor a v μ)
    (hK : ∀ (a' : aT) (v' : vT) (μ' : zM), cWor a' v' μ' → rWor a' v' μ' → zU Γ b_L_law n_L 7 (some .boolean) [] room_1 k0 s0 Fn false (n + 3) μ' 1107 [some (zp 77), some (zp 0), some (zp 51), some (zp 76), some (zi i), none, none] []) :
    zU Γ b_L_law n_L 7 (some .boolean) [] room_1 k0 s0 Fn false n μ 443 [some (zp 77), some (zp 0), some (zp 51), some (zp 76), some (zi i), none, none] [] := by
  refine zU_aload_n d_L_law_443 rfl ?_
  refine zU_callVv (p0 := 0) [] d_L_law_444 k_L_94 rfl (by decide) rfl rfl ⟨by decide, by decide, by show _ ≤ 601024; omega, by show _ ≤ 7293034; omega⟩ (Nat.le_of_ble_eq_true rfl) (fun l => m_C_clear l μ (a := a)) (fun μ444 h444 => ?_)
  obtain ⟨b1, b2, b3⟩ := h444
  have hC1 : cWor (aClr a) none μ444 := cWor_new hC0 (aOk_clr a) b1 b2 (fun q h1 h2 => b3 q (by omega) (by omega))
  have hR1 : rWor a v μ444 := rWor_fr2 hR0 (fun q h1 h2 => b3 q (by omega) (by omega))
  refine zU_aload_n d_L_law_447 rfl ?_
  refine zU_callVv (p0 := 51) [] d_L_law_448 k_L_97 rfl (by decide) rfl rfl ⟨by decide, by decide, by show _ ≤ 601024; omega, by show _ ≤ 7293034; omega⟩ (Nat.le_of_ble_eq_true rfl) (fun l => m_R_clear l μ444 hR1.1 hR1.2.1) (fun μ448 h448 => ?_)
  obtain ⟨⟨c1, c2, c3⟩, hq2⟩ := h448
  have hC2 := cWor_fr hC1 (fun q hq => hq2 q (Or.inl hq))
  have hR2 := rWor_new (aOk_clr a) c2 c3
  refine zU_goto 1107 d_L_law_451 (by decide) ?_
  refine zU.widen (n' := n + 3) (by omega) ?_
  exact hK _ _ _ hC2 hR2
set_option maxRecDepth 100000 in
set_option maxHeartbeats 4000000 in
theorem law_c5 {Γ : zG} {N : Nat} {xs : Nat → Int32} {k0 s0 : Nat} {Fn : State → Prop} {n : Nat} {i : Int} {a : aT} {v : vT} {μ : zM} (hs : zScr Γ N xs) (hL : N ≤ 2147483647) (hi : 0 ≤ i ∧ i + 5 ≤ N) (hn : n + k0 + 9 ≤ 601024 ∧ 6 * n + s0 + 54 ≤ 7293034) (hC0 : cWor a v μ) (hR0 : rWor a v μ)
    (hK : ∀ (a' : aT) (v' : vT) (μ' : zM), cWor a' v' μ' → rWor a' v' μ' → zU Γ b_L_law n_L 7 (some .boolean) [] room_1 k0 s0 Fn false (n + 3) μ' 1107 [some (zp 77), some (zp 0), some (zp 51), some (zp 76), some (zi i), none, none] []) :
    zU Γ b_L_law n_L 7 (some .boolean) [] room_1 k0 s0 Fn false n μ 454 [some (zp 77), some (zp 0), some (zp 51), some (zp 76), some (zi i), none, none] [] := by
  refine zU_aload_n d_L_law_454 rfl ?_
  refine zU_callVi (p0 := 0) [] d_L_law_455 k_L_98 rfl (by decide) rfl rfl ⟨by decide, by decide, by show _ ≤ 601024; omega, by show _ ≤ 7293034; omega⟩ (Nat.le_of_ble_eq_true rfl) (fun l => m_C_make l μ hC0) (fun r455 μ455 h455 => ?_)
  obtain ⟨⟨v1, hC1, hM1⟩, hq1⟩ := h455
  have hR1 : rWor a v μ455 := rWor_fr2 hR0 (fun q h1 h2 => hq1 q h1)
  have hrr := rMake_r hM1
  refine zU_aload_n d_L_law_458 rfl ?_
  refine zU_callVi (p0 := 51) [] d_L_law_459 k_L_101 rfl (by decide) rfl rfl ⟨by decide, by decide, by show _ ≤ 601024; omega, by show _ ≤ 7293034; omega⟩ (Nat.le_of_ble_eq_true rfl) (fun l => m_R_make l μ455 hR1.1 hR1.2.1 hM1) (fun r459 μ459 h459 => ?_)
  obtain ⟨hre, hR2, _, hq2⟩ := h459
  have hC2 := cWor_fr hC1 (fun q hq => hq2 q (Or.inl hq))
  refine zU_icmp_eq 1107 d_L_law_462 (by decide) (by omega) (by omega) (fun h462 => ?_) (fun h462 => ?_)
  · refine zU.widen (n' := n + 3) (by omega) ?_
    exact hK _ _ _ hC2 hR2
  · exact absurd hre.symm h462
set_option maxRecDepth 100000 in
set_option maxHeartbeats 4000000 in
theorem law_c6 {Γ : zG} {N : Nat} {xs : Nat → Int32} {k0 s0 : Nat} {Fn : State → Prop} {n : Nat} {i : Int} {a : aT} {v : vT} {μ : zM} (hs : zScr Γ N xs) (hL : N ≤ 2147483647) (hi : 0 ≤ i ∧ i + 5 ≤ N) (hn : n + k0 + 9 ≤ 601024 ∧ 6 * n + s0 + 54 ≤ 7293034) (hC0 : cWor a v μ) (hR0 : rWor a v μ)
    (hK : ∀ (a' : aT) (v' : vT) (μ' : zM), cWor a' v' μ' → rWor a' v' μ' → zU Γ b_L_law n_L 7 (some .boolean) [] room_1 k0 s0 Fn false (n + 3) μ' 1107 [some (zp 77), some (zp 0), some (zp 51), some (zp 76), some (zi i), none, none] []) :
    zU Γ b_L_law n_L 7 (some .boolean) [] room_1 k0 s0 Fn false n μ 467 [some (zp 77), some (zp 0), some (zp 51), some (zp 76), some (zi i), none, none] [] := by
  refine zU_aload_n d_L_law_467 rfl ?_
  refine zU_aload_n d_L_law_468 rfl ?_
  refine zU_iload d_L_law_469 rfl ?_
  refine zU_iconst d_L_law_471 ?_
  refine zU_iadd d_L_law_472 ?_
  refine zU_sld hs hL d_L_law_473 (by omega) ?_
  refine zU_aload_n d_L_law_474 rfl ?_
  refine zU_iload d_L_law_475 rfl ?_
  refine zU_iconst d_L_law_477 ?_
  refine zU_iadd d_L_law_478 ?_
  refine zU_sld hs hL d_L_law_479 (by omega) ?_
  refine zU_aload_n d_L_law_480 rfl ?_
  refine zU_callSi [zp 0, zi (sx xs (i + 1)), zi (sx xs (i + 2)), zp 76] d_L_law_481 k_L_102 rfl ⟨by decide, by decide, by show _ ≤ 601024; omega, by show _ ≤ 7293034; omega⟩ (Nat.le_of_ble_eq_true rfl) (fun l => m_L_says l μ hC0 (sx_r xs _) (sx_r xs _)) (fun r481 μ481 h481 => ?_)
  obtain ⟨⟨r1, hA1, hr1⟩, hq1⟩ := h481
  have ht1 : 0 ≤ r481 ∧ r481 ≤ 2 := by rcases hA1 with ⟨h, _⟩ | ⟨h, _⟩ | ⟨h, _⟩ <;> omega
  have hC1 : cWor a v μ481 := cWor_fr hC0 (fun q hq => hq1 q (by omega))
  have hR1 : rWor a v μ481 := rWor_fr2 hR0 (fun q h1 h2 => hq1 q h2)
  refine zU_istore d_L_law_484 (by decide) ?_
  refine zU.eqL (L' := [some (zp 77), some (zp 0), some (zp 51), some (zp 76), some (zi i), some (zi (r481)), none]) rfl ?_
  refine zU_aload_n d_L_law_486 rfl ?_
  refine zU_aload_n d_L_law_487 rfl ?_
  refine zU_iload d_L_law_488 rfl ?_
  refine zU_iconst d_L_law_490 ?_
  refine zU_iadd d_L_law_491 ?_
  refine zU_sld hs hL d_L_law_492 (by omega) ?_
  refine zU_aload_n d_L_law_493 rfl ?_
  refine zU_iload d_L_law_494 rfl ?_
  refine zU_iconst d_L_law_496 ?_
  refine zU_iadd d_L_law_497 ?_
  refine zU_sld hs hL d_L_law_498 (by omega) ?_
  refine zU_callVi (p0 := 51) [zi (sx xs (i + 1)), zi (sx xs (i + 2))] d_L_law_499 k_L_104 rfl (by decide) rfl rfl ⟨by decide, by decide, by show _ ≤ 601024; omega, by show _ ≤ 7293034; omega⟩ (Nat.le_of_ble_eq_true rfl) (fun l => m_R_says l μ481 hR1 (sx_r xs _) (sx_r xs _)) (fun r499 μ499 h499 => ?_)
  obtain ⟨hA2, hR2, hq2⟩ := h499
  obtain ⟨hte, hre⟩ := aSays_un hA1 hA2
  have hC2 := cWor_fr hC1 (fun q hq => hq2 q (Or.inl hq))
  have h76 : μ499 76 = μ481 76 := hq2 76 (Or.inr rfl)
  refine zU_istore d_L_law_502 (by decide) ?_
  refine zU.eqL (L' := [some (zp 77), some (zp 0), some (zp 51), some (zp 76), some (zi i), some (zi (r481)), some (zi (r499))]) rfl ?_
  refine zU_aload_n d_L_law_504 rfl ?_
  refine zU_callVi (p0 := 51) [] d_L_law_505 k_L_79 rfl (by decide) rfl rfl ⟨by decide, by decide, by show _ ≤ 601024; omega, by show _ ≤ 7293034; omega⟩ (Nat.le_of_ble_eq_true rfl) (fun l => m_R_thrown l μ499) (fun r505 μ505 h505 => ?_)
  obtain ⟨hμ505, rfl⟩ := h505
  replace hμ505 := hμ505.symm
  subst hμ505
  refine zU_iload d_L_law_508 rfl ?_
  refine zU_icmp_eq 515 d_L_law_510 (by decide) (by omega) (by omega) (fun h510 => ?_) (fun h510 => ?_)
  · refine zU_iload d_L_law_515 rfl ?_
    refine zU_if_ne 532 d_L_law_517 (by decide) (by omega) (fun h517 => ?_) (fun h517 => ?_)
    · refine zU_goto 1107 d_L_law_532 (by decide) ?_
      refine zU.drop 5 (L' := [some (zp 77), some (zp 0), some (zp 51), some (zp 76), some (zi i), none, some (zi (r499))]) rfl ?_
      refine zU.drop 6 (L' := [some (zp 77), some (zp 0), some (zp 51), some (zp 76), some (zi i), none, none]) rfl ?_
      refine zU.widen (n' := n + 3) (by omega) ?_
      exact hK _ _ _ hC2 hR2
    · refine zU_aload_n d_L_law_520 rfl ?_
      refine zU_iconst d_L_law_521 ?_
      refine zU_lald (v := r1) d_L_law_522 (by decide) rfl (by decide) (by omega) (by rw [h76]; exact (hr1 h517).1) ?_
      refine zU_iload d_L_law_523 rfl ?_
      refine zU_i2l d_L_law_525 (by have h8 := hr1 h517; have h9 := hre h517; omega) ?_
      refine zU_lcmp d_L_law_526 (by have h8 := hr1 h517; have h9 := hre h517; omega) (by have h8 := hr1 h517; have h9 := hre h517; omega) ?_
      refine zU_if_eq 532 d_L_law_527 (by decide) (lc_r _ _) (fun h527 => ?_) (fun h527 => ?_)
      · refine zU_goto 1107 d_L_law_532 (by decide) ?_
        refine zU.drop 5 (L' := [some (zp 77), some (zp 0), some (zp 51), some (zp 76), some (zi i), none, some (zi (r499))]) rfl ?_
        refine zU.drop 6 (L' := [some (zp 77), some (zp 0), some (zp 51), some (zp 76), some (zi i), none, none]) rfl ?_
        refine zU.widen (n' := n + 3) (by omega) ?_
        exact hK _ _ _ hC2 hR2
      · exact absurd (lc_0 (hre h517)) h527
  · exact absurd hte.symm h510
set_option maxRecDepth 100000 in
set_option maxHeartbeats 4000000 in
theorem law_c7 {Γ : zG} {N : Nat} {xs : Nat → Int32} {k0 s0 : Nat} {Fn : State → Prop} {n : Nat} {i : Int} {a : aT} {v : vT} {μ : zM} (hs : zScr Γ N xs) (hL : N ≤ 2147483647) (hi : 0 ≤ i ∧ i + 5 ≤ N) (hn : n + k0 + 9 ≤ 601024 ∧ 6 * n + s0 + 54 ≤ 7293034) (hC0 : cWor a v μ) (hR0 : rWor a v μ)
    (hK : ∀ (a' : aT) (v' : vT) (μ' : zM), cWor a' v' μ' → rWor a' v' μ' → zU Γ b_L_law n_L 7 (some .boolean) [] room_1 k0 s0 Fn false (n + 3) μ' 1107 [some (zp 77), some (zp 0), some (zp 51), some (zp 76), some (zi i), none, none] []) :
    zU Γ b_L_law n_L 7 (some .boolean) [] room_1 k0 s0 Fn false n μ 535 [some (zp 77), some (zp 0), some (zp 51), some (zp 76), some (zi i), none, none] [] := by
  refine zU_aload_n d_L_law_535 rfl ?_
  refine zU_aload_n d_L_law_536 rfl ?_
  refine zU_iload d_L_law_537 rfl ?_
  refine zU_iconst d_L_law_539 ?_
  refine zU_iadd d_L_law_540 ?_
  refine zU_sld hs hL d_L_law_541 (by omega) ?_
  refine zU_aload_n d_L_law_542 rfl ?_
  refine zU_iload d_L_law_543 rfl ?_
  refine zU_iconst d_L_law_545 ?_
  refine zU_iadd d_L_law_546 ?_
  refine zU_sld hs hL d_L_law_547 (by omega) ?_
  refine zU_aload_n d_L_law_548 rfl ?_
  refine zU_callSi [zp 0, zi (sx xs (i + 1)), zi (sx xs (i + 2)), zp 76] d_L_law_549 k_L_105 rfl ⟨by decide, by decide, by show _ ≤ 601024; omega, by show _ ≤ 7293034; omega⟩ (Nat.le_of_ble_eq_true rfl) (fun l => m_L_leads l μ hC0 (sx_r xs _) (sx_r xs _)) (fun r549 μ549 h549 => ?_)
  obtain ⟨⟨r1, hA1, hr1⟩, hq1⟩ := h549
  have ht1 : 0 ≤ r549 ∧ r549 ≤ 2 := by rcases hA1 with ⟨h, _⟩ | ⟨h, _⟩ | ⟨h, _⟩ <;> omega
  have hC1 : cWor a v μ549 := cWor_fr hC0 (fun q hq => hq1 q (by omega))
  have hR1 : rWor a v μ549 := rWor_fr2 hR0 (fun q h1 h2 => hq1 q h2)
  refine zU_istore d_L_law_552 (by decide) ?_
  refine zU.eqL (L' := [some (zp 77), some (zp 0), some (zp 51), some (zp 76), some (zi i), some (zi (r549)), none]) rfl ?_
  refine zU_aload_n d_L_law_554 rfl ?_
  refine zU_aload_n d_L_law_555 rfl ?_
  refine zU_iload d_L_law_556 rfl ?_
  refine zU_iconst d_L_law_558 ?_
  refine zU_iadd d_L_law_559 ?_
  refine zU_sld hs hL d_L_law_560 (by omega) ?_
  refine zU_aload_n d_L_law_561 rfl ?_
  refine zU_iload d_L_law_562 rfl ?_
  refine zU_iconst d_L_law_564 ?_
  refine zU_iadd d_L_law_565 ?_
  refine zU_sld hs hL d_L_law_566 (by omega) ?_
  refine zU_callVi (p0 := 51) [zi (sx xs (i + 1)), zi (sx xs (i + 2))] d_L_law_567 k_L_107 rfl (by decide) rfl rfl ⟨by decide, by decide, by show _ ≤ 601024; omega, by show _ ≤ 7293034; omega⟩ (Nat.le_of_ble_eq_true rfl) (fun l => m_R_leads l μ549 hR1 (sx_r xs _) (sx_r xs _)) (fun r567 μ567 h567 => ?_)
  obtain ⟨hA2, hR2, hq2⟩ := h567
  obtain ⟨hte, hre⟩ := aLeads_un hA1 hA2
  have hC2 := cWor_fr hC1 (fun q hq => hq2 q (Or.inl hq))
  have h76 : μ567 76 = μ549 76 := hq2 76 (Or.inr rfl)
  refine zU_istore d_L_law_570 (by decide) ?_
  refine zU.eqL (L' := [some (zp 77), some (zp 0), some (zp 51), some (zp 76), some (zi i), some (zi (r549)), some (zi (r567))]) rfl ?_
  refine zU_aload_n d_L_law_572 rfl ?_
  refine zU_callVi (p0 := 51) [] d_L_law_573 k_L_79 rfl (by decide) rfl rfl ⟨by decide, by decide, by show _ ≤ 601024; omega, by show _ ≤ 7293034; omega⟩ (Nat.le_of_ble_eq_true rfl) (fun l => m_R_thrown l μ567) (fun r573 μ573 h573 => ?_)
  obtain ⟨hμ573, rfl⟩ := h573
  replace hμ573 := hμ573.symm
  subst hμ573
  refine zU_iload d_L_law_576 rfl ?_
  refine zU_icmp_eq 583 d_L_law_578 (by decide) (by omega) (by omega) (fun h578 => ?_) (fun h578 => ?_)
  · refine zU_iload d_L_law_583 rfl ?_
    refine zU_if_ne 600 d_L_law_585 (by decide) (by omega) (fun h585 => ?_) (fun h585 => ?_)
    · refine zU_goto 1107 d_L_law_600 (by decide) ?_
      refine zU.drop 5 (L' := [some (zp 77), some (zp 0), some (zp 51), some (zp 76), some (zi i), none, some (zi (r567))]) rfl ?_
      refine zU.drop 6 (L' := [some (zp 77), some (zp 0), some (zp 51), some (zp 76), some (zi i), none, none]) rfl ?_
      refine zU.widen (n' := n + 3) (by omega) ?_
      exact hK _ _ _ hC2 hR2
    · refine zU_aload_n d_L_law_588 rfl ?_
      refine zU_iconst d_L_law_589 ?_
      refine zU_lald (v := r1) d_L_law_590 (by decide) rfl (by decide) (by omega) (by rw [h76]; exact (hr1 h585).1) ?_
      refine zU_iload d_L_law_591 rfl ?_
      refine zU_i2l d_L_law_593 (by have h8 := hr1 h585; have h9 := hre h585; omega) ?_
      refine zU_lcmp d_L_law_594 (by have h8 := hr1 h585; have h9 := hre h585; omega) (by have h8 := hr1 h585; have h9 := hre h585; omega) ?_
      refine zU_if_eq 600 d_L_law_595 (by decide) (lc_r _ _) (fun h595 => ?_) (fun h595 => ?_)
      · refine zU_goto 1107 d_L_law_600 (by decide) ?_
        refine zU.drop 5 (L' := [some (zp 77), some (zp 0), some (zp 51), some (zp 76), some (zi i), none, some (zi (r567))]) rfl ?_
        refine zU.drop 6 (L' := [some (zp 77), some (zp 0), some (zp 51), some (zp 76), some (zi i), none, none]) rfl ?_
        refine zU.widen (n' := n + 3) (by omega) ?_
        exact hK _ _ _ hC2 hR2
      · exact absurd (lc_0 (hre h585)) h595
  · exact absurd hte.symm h578
set_option maxRecDepth 100000 in
set_option maxHeartbeats 4000000 in
theorem law_c8 {Γ : zG} {N : Nat} {xs : Nat → Int32} {k0 s0 : Nat} {Fn : State → Prop} {n : Nat} {i : Int} {a : aT} {v : vT} {μ : zM} (hs : zScr Γ N xs) (hL : N ≤ 2147483647) (hi : 0 ≤ i ∧ i + 5 ≤ N) (hn : n + k0 + 9 ≤ 601024 ∧ 6 * n + s0 + 54 ≤ 7293034) (hC0 : cWor a v μ) (hR0 : rWor a v μ)
    (hK : ∀ (a' : aT) (v' : vT) (μ' : zM), cWor a' v' μ' → rWor a' v' μ' → zU Γ b_L_law n_L 7 (some .boolean) [] room_1 k0 s0 Fn false (n + 3) μ' 1107 [some (zp 77), some (zp 0), some (zp 51), some (zp 76), some (zi i), none, none] []) :
    zU Γ b_L_law n_L 7 (some .boolean) [] room_1 k0 s0 Fn false n μ 603 [some (zp 77), some (zp 0), some (zp 51), some (zp 76), some (zi i), none, none] [] := by
  refine zU_aload_n d_L_law_603 rfl ?_
  refine zU_aload_n d_L_law_604 rfl ?_
  refine zU_iload d_L_law_605 rfl ?_
  refine zU_iconst d_L_law_607 ?_
  refine zU_iadd d_L_law_608 ?_
  refine zU_sld hs hL d_L_law_609 (by omega) ?_
  refine zU_aload_n d_L_law_610 rfl ?_
  refine zU_iload d_L_law_611 rfl ?_
  refine zU_iconst d_L_law_613 ?_
  refine zU_iadd d_L_law_614 ?_
  refine zU_sld hs hL d_L_law_615 (by omega) ?_
  refine zU_aload_n d_L_law_616 rfl ?_
  refine zU_callSi [zp 0, zi (sx xs (i + 1)), zi (sx xs (i + 2)), zp 76] d_L_law_617 k_L_108 rfl ⟨by decide, by decide, by show _ ≤ 601024; omega, by show _ ≤ 7293034; omega⟩ (Nat.le_of_ble_eq_true rfl) (fun l => m_L_part l μ hC0 (sx_r xs _) (sx_r xs _)) (fun r617 μ617 h617 => ?_)
  obtain ⟨⟨r1, hA1, hr1⟩, hq1⟩ := h617
  have ht1 : 0 ≤ r617 ∧ r617 ≤ 2 := by rcases hA1 with ⟨h, _⟩ | ⟨h, _⟩ | ⟨h, _⟩ <;> omega
  have hC1 : cWor a v μ617 := cWor_fr hC0 (fun q hq => hq1 q (by omega))
  have hR1 : rWor a v μ617 := rWor_fr2 hR0 (fun q h1 h2 => hq1 q h2)
  refine zU_istore d_L_law_620 (by decide) ?_
  refine zU.eqL (L' := [some (zp 77), some (zp 0), some (zp 51), some (zp 76), some (zi i), some (zi (r617)), none]) rfl ?_
  refine zU_aload_n d_L_law_622 rfl ?_
  refine zU_aload_n d_L_law_623 rfl ?_
  refine zU_iload d_L_law_624 rfl ?_
  refine zU_iconst d_L_law_626 ?_
  refine zU_iadd d_L_law_627 ?_
  refine zU_sld hs hL d_L_law_628 (by omega) ?_
  refine zU_aload_n d_L_law_629 rfl ?_
  refine zU_iload d_L_law_630 rfl ?_
  refine zU_iconst d_L_law_632 ?_
  refine zU_iadd d_L_law_633 ?_
  refine zU_sld hs hL d_L_law_634 (by omega) ?_
  refine zU_callVi (p0 := 51) [zi (sx xs (i + 1)), zi (sx xs (i + 2))] d_L_law_635 k_L_110 rfl (by decide) rfl rfl ⟨by decide, by decide, by show _ ≤ 601024; omega, by show _ ≤ 7293034; omega⟩ (Nat.le_of_ble_eq_true rfl) (fun l => m_R_part l μ617 hR1 (sx_r xs _) (sx_r xs _)) (fun r635 μ635 h635 => ?_)
  obtain ⟨hA2, hR2, hq2⟩ := h635
  obtain ⟨hte, hre⟩ := aPart_un hA1 hA2
  have hC2 := cWor_fr hC1 (fun q hq => hq2 q (Or.inl hq))
  have h76 : μ635 76 = μ617 76 := hq2 76 (Or.inr rfl)
  refine zU_istore d_L_law_638 (by decide) ?_
  refine zU.eqL (L' := [some (zp 77), some (zp 0), some (zp 51), some (zp 76), some (zi i), some (zi (r617)), some (zi (r635))]) rfl ?_
  refine zU_aload_n d_L_law_640 rfl ?_
  refine zU_callVi (p0 := 51) [] d_L_law_641 k_L_79 rfl (by decide) rfl rfl ⟨by decide, by decide, by show _ ≤ 601024; omega, by show _ ≤ 7293034; omega⟩ (Nat.le_of_ble_eq_true rfl) (fun l => m_R_thrown l μ635) (fun r641 μ641 h641 => ?_)
  obtain ⟨hμ641, rfl⟩ := h641
  replace hμ641 := hμ641.symm
  subst hμ641
  refine zU_iload d_L_law_644 rfl ?_
  refine zU_icmp_eq 651 d_L_law_646 (by decide) (by omega) (by omega) (fun h646 => ?_) (fun h646 => ?_)
  · refine zU_iload d_L_law_651 rfl ?_
    refine zU_if_ne 668 d_L_law_653 (by decide) (by omega) (fun h653 => ?_) (fun h653 => ?_)
    · refine zU_goto 1107 d_L_law_668 (by decide) ?_
      refine zU.drop 5 (L' := [some (zp 77), some (zp 0), some (zp 51), some (zp 76), some (zi i), none, some (zi (r635))]) rfl ?_
      refine zU.drop 6 (L' := [some (zp 77), some (zp 0), some (zp 51), some (zp 76), some (zi i), none, none]) rfl ?_
      refine zU.widen (n' := n + 3) (by omega) ?_
      exact hK _ _ _ hC2 hR2
    · refine zU_aload_n d_L_law_656 rfl ?_
      refine zU_iconst d_L_law_657 ?_
      refine zU_lald (v := r1) d_L_law_658 (by decide) rfl (by decide) (by omega) (by rw [h76]; exact (hr1 h653).1) ?_
      refine zU_iload d_L_law_659 rfl ?_
      refine zU_i2l d_L_law_661 (by have h8 := hr1 h653; have h9 := hre h653; omega) ?_
      refine zU_lcmp d_L_law_662 (by have h8 := hr1 h653; have h9 := hre h653; omega) (by have h8 := hr1 h653; have h9 := hre h653; omega) ?_
      refine zU_if_eq 668 d_L_law_663 (by decide) (lc_r _ _) (fun h663 => ?_) (fun h663 => ?_)
      · refine zU_goto 1107 d_L_law_668 (by decide) ?_
        refine zU.drop 5 (L' := [some (zp 77), some (zp 0), some (zp 51), some (zp 76), some (zi i), none, some (zi (r635))]) rfl ?_
        refine zU.drop 6 (L' := [some (zp 77), some (zp 0), some (zp 51), some (zp 76), some (zi i), none, none]) rfl ?_
        refine zU.widen (n' := n + 3) (by omega) ?_
        exact hK _ _ _ hC2 hR2
      · exact absurd (lc_0 (hre h653)) h663
  · exact absurd hte.symm h646
set_option maxRecDepth 100000 in
set_option maxHeartbeats 4000000 in
theorem law_c9 {Γ : zG} {N : Nat} {xs : Nat → Int32} {k0 s0 : Nat} {Fn : State → Prop} {n : Nat} {i : Int} {a : aT} {v : vT} {μ : zM} (hs : zScr Γ N xs) (hL : N ≤ 2147483647) (hi : 0 ≤ i ∧ i + 5 ≤ N) (hn : n + k0 + 9 ≤ 601024 ∧ 6 * n + s0 + 54 ≤ 7293034) (hC0 : cWor a v μ) (hR0 : rWor a v μ)
    (hK : ∀ (a' : aT) (v' : vT) (μ' : zM), cWor a' v' μ' → rWor a' v' μ' → zU Γ b_L_law n_L 7 (some .boolean) [] room_1 k0 s0 Fn false (n + 3) μ' 1107 [some (zp 77), some (zp 0), some (zp 51), some (zp 76), some (zi i), none, none] []) :
    zU Γ b_L_law n_L 7 (some .boolean) [] room_1 k0 s0 Fn false n μ 671 [some (zp 77), some (zp 0), some (zp 51), some (zp 76), some (zi i), none, none] [] := by
  refine zU_aload_n d_L_law_671 rfl ?_
  refine zU_aload_n d_L_law_672 rfl ?_
  refine zU_iload d_L_law_673 rfl ?_
  refine zU_iconst d_L_law_675 ?_
  refine zU_iadd d_L_law_676 ?_
  refine zU_sld hs hL d_L_law_677 (by omega) ?_
  refine zU_aload_n d_L_law_678 rfl ?_
  refine zU_callSi [zp 0, zi (sx xs (i + 1)), zp 76] d_L_law_679 k_L_111 rfl ⟨by decide, by decide, by show _ ≤ 601024; omega, by show _ ≤ 7293034; omega⟩ (Nat.le_of_ble_eq_true rfl) (fun l => m_L_many l μ hC0 (sx_r xs _)) (fun r679 μ679 h679 => ?_)
  obtain ⟨⟨r1, hA1, hr1⟩, hq1⟩ := h679
  have ht1 : 0 ≤ r679 ∧ r679 ≤ 2 := by rcases hA1 with ⟨h, _⟩ | ⟨h, _⟩ | ⟨h, _⟩ <;> omega
  have hC1 : cWor a v μ679 := cWor_fr hC0 (fun q hq => hq1 q (by omega))
  have hR1 : rWor a v μ679 := rWor_fr2 hR0 (fun q h1 h2 => hq1 q h2)
  refine zU_istore d_L_law_682 (by decide) ?_
  refine zU.eqL (L' := [some (zp 77), some (zp 0), some (zp 51), some (zp 76), some (zi i), some (zi (r679)), none]) rfl ?_
  refine zU_aload_n d_L_law_684 rfl ?_
  refine zU_aload_n d_L_law_685 rfl ?_
  refine zU_iload d_L_law_686 rfl ?_
  refine zU_iconst d_L_law_688 ?_
  refine zU_iadd d_L_law_689 ?_
  refine zU_sld hs hL d_L_law_690 (by omega) ?_
  refine zU_callVi (p0 := 51) [zi (sx xs (i + 1))] d_L_law_691 k_L_114 rfl (by decide) rfl rfl ⟨by decide, by decide, by show _ ≤ 601024; omega, by show _ ≤ 7293034; omega⟩ (Nat.le_of_ble_eq_true rfl) (fun l => m_R_many l μ679 hR1 (sx_r xs _)) (fun r691 μ691 h691 => ?_)
  obtain ⟨hA2, hR2, hq2⟩ := h691
  obtain ⟨hte, hre⟩ := aMany_un hA1 hA2
  have hC2 := cWor_fr hC1 (fun q hq => hq2 q (Or.inl hq))
  have h76 : μ691 76 = μ679 76 := hq2 76 (Or.inr rfl)
  refine zU_istore d_L_law_694 (by decide) ?_
  refine zU.eqL (L' := [some (zp 77), some (zp 0), some (zp 51), some (zp 76), some (zi i), some (zi (r679)), some (zi (r691))]) rfl ?_
  refine zU_aload_n d_L_law_696 rfl ?_
  refine zU_callVi (p0 := 51) [] d_L_law_697 k_L_79 rfl (by decide) rfl rfl ⟨by decide, by decide, by show _ ≤ 601024; omega, by show _ ≤ 7293034; omega⟩ (Nat.le_of_ble_eq_true rfl) (fun l => m_R_thrown l μ691) (fun r697 μ697 h697 => ?_)
  obtain ⟨hμ697, rfl⟩ := h697
  replace hμ697 := hμ697.symm
  subst hμ697
  refine zU_iload d_L_law_700 rfl ?_
  refine zU_icmp_eq 707 d_L_law_702 (by decide) (by omega) (by omega) (fun h702 => ?_) (fun h702 => ?_)
  · refine zU_iload d_L_law_707 rfl ?_
    refine zU_if_ne 724 d_L_law_709 (by decide) (by omega) (fun h709 => ?_) (fun h709 => ?_)
    · refine zU_goto 1107 d_L_law_724 (by decide) ?_
      refine zU.drop 5 (L' := [some (zp 77), some (zp 0), some (zp 51), some (zp 76), some (zi i), none, some (zi (r691))]) rfl ?_
      refine zU.drop 6 (L' := [some (zp 77), some (zp 0), some (zp 51), some (zp 76), some (zi i), none, none]) rfl ?_
      refine zU.widen (n' := n + 3) (by omega) ?_
      exact hK _ _ _ hC2 hR2
    · refine zU_aload_n d_L_law_712 rfl ?_
      refine zU_iconst d_L_law_713 ?_
      refine zU_lald (v := r1) d_L_law_714 (by decide) rfl (by decide) (by omega) (by rw [h76]; exact (hr1 h709).1) ?_
      refine zU_iload d_L_law_715 rfl ?_
      refine zU_i2l d_L_law_717 (by have h8 := hr1 h709; have h9 := hre h709; omega) ?_
      refine zU_lcmp d_L_law_718 (by have h8 := hr1 h709; have h9 := hre h709; omega) (by have h8 := hr1 h709; have h9 := hre h709; omega) ?_
      refine zU_if_eq 724 d_L_law_719 (by decide) (lc_r _ _) (fun h719 => ?_) (fun h719 => ?_)
      · refine zU_goto 1107 d_L_law_724 (by decide) ?_
        refine zU.drop 5 (L' := [some (zp 77), some (zp 0), some (zp 51), some (zp 76), some (zi i), none, some (zi (r691))]) rfl ?_
        refine zU.drop 6 (L' := [some (zp 77), some (zp 0), some (zp 51), some (zp 76), some (zi i), none, none]) rfl ?_
        refine zU.widen (n' := n + 3) (by omega) ?_
        exact hK _ _ _ hC2 hR2
      · exact absurd (lc_0 (hre h709)) h719
  · exact absurd hte.symm h702
set_option maxRecDepth 100000 in
set_option maxHeartbeats 4000000 in
theorem law_c10 {Γ : zG} {N : Nat} {xs : Nat → Int32} {k0 s0 : Nat} {Fn : State → Prop} {n : Nat} {i : Int} {a : aT} {v : vT} {μ : zM} (hs : zScr Γ N xs) (hL : N ≤ 2147483647) (hi : 0 ≤ i ∧ i + 5 ≤ N) (hn : n + k0 + 9 ≤ 601024 ∧ 6 * n + s0 + 54 ≤ 7293034) (hC0 : cWor a v μ) (hR0 : rWor a v μ)
    (hK : ∀ (a' : aT) (v' : vT) (μ' : zM), cWor a' v' μ' → rWor a' v' μ' → zU Γ b_L_law n_L 7 (some .boolean) [] room_1 k0 s0 Fn false (n + 3) μ' 1107 [some (zp 77), some (zp 0), some (zp 51), some (zp 76), some (zi i), none, none] []) :
    zU Γ b_L_law n_L 7 (some .boolean) [] room_1 k0 s0 Fn false n μ 727 [some (zp 77), some (zp 0), some (zp 51), some (zp 76), some (zi i), none, none] [] := by
  refine zU_aload_n d_L_law_727 rfl ?_
  refine zU_aload_n d_L_law_728 rfl ?_
  refine zU_callSi [zp 0, zp 76] d_L_law_729 k_L_115 rfl ⟨by decide, by decide, by show _ ≤ 601024; omega, by show _ ≤ 7293034; omega⟩ (Nat.le_of_ble_eq_true rfl) (fun l => m_L_why l μ hC0 ) (fun r729 μ729 h729 => ?_)
  obtain ⟨⟨r1, hA1, hr1⟩, hq1⟩ := h729
  have ht1 : 0 ≤ r729 ∧ r729 ≤ 2 := by rcases hA1 with ⟨h, _⟩ | ⟨h, _⟩ <;> omega
  have hC1 : cWor a v μ729 := cWor_fr hC0 (fun q hq => hq1 q (by omega))
  have hR1 : rWor a v μ729 := rWor_fr2 hR0 (fun q h1 h2 => hq1 q h2)
  refine zU_istore d_L_law_732 (by decide) ?_
  refine zU.eqL (L' := [some (zp 77), some (zp 0), some (zp 51), some (zp 76), some (zi i), some (zi (r729)), none]) rfl ?_
  refine zU_aload_n d_L_law_734 rfl ?_
  refine zU_callVi (p0 := 51) [] d_L_law_735 k_L_118 rfl (by decide) rfl rfl ⟨by decide, by decide, by show _ ≤ 601024; omega, by show _ ≤ 7293034; omega⟩ (Nat.le_of_ble_eq_true rfl) (fun l => m_R_why l μ729 hR1 ) (fun r735 μ735 h735 => ?_)
  obtain ⟨hA2, hR2, hq2⟩ := h735
  obtain ⟨hte, hre⟩ := aWhy_un hA1 hA2
  have hC2 := cWor_fr hC1 (fun q hq => hq2 q (Or.inl hq))
  have h76 : μ735 76 = μ729 76 := hq2 76 (Or.inr rfl)
  refine zU_istore d_L_law_738 (by decide) ?_
  refine zU.eqL (L' := [some (zp 77), some (zp 0), some (zp 51), some (zp 76), some (zi i), some (zi (r729)), some (zi (r735))]) rfl ?_
  refine zU_aload_n d_L_law_740 rfl ?_
  refine zU_callVi (p0 := 51) [] d_L_law_741 k_L_79 rfl (by decide) rfl rfl ⟨by decide, by decide, by show _ ≤ 601024; omega, by show _ ≤ 7293034; omega⟩ (Nat.le_of_ble_eq_true rfl) (fun l => m_R_thrown l μ735) (fun r741 μ741 h741 => ?_)
  obtain ⟨hμ741, rfl⟩ := h741
  replace hμ741 := hμ741.symm
  subst hμ741
  refine zU_iload d_L_law_744 rfl ?_
  refine zU_icmp_eq 751 d_L_law_746 (by decide) (by omega) (by omega) (fun h746 => ?_) (fun h746 => ?_)
  · refine zU_iload d_L_law_751 rfl ?_
    refine zU_if_ne 768 d_L_law_753 (by decide) (by omega) (fun h753 => ?_) (fun h753 => ?_)
    · refine zU_goto 1107 d_L_law_768 (by decide) ?_
      refine zU.drop 5 (L' := [some (zp 77), some (zp 0), some (zp 51), some (zp 76), some (zi i), none, some (zi (r735))]) rfl ?_
      refine zU.drop 6 (L' := [some (zp 77), some (zp 0), some (zp 51), some (zp 76), some (zi i), none, none]) rfl ?_
      refine zU.widen (n' := n + 3) (by omega) ?_
      exact hK _ _ _ hC2 hR2
    · refine zU_aload_n d_L_law_756 rfl ?_
      refine zU_iconst d_L_law_757 ?_
      refine zU_lald (v := r1) d_L_law_758 (by decide) rfl (by decide) (by omega) (by rw [h76]; exact (hr1 h753).1) ?_
      refine zU_iload d_L_law_759 rfl ?_
      refine zU_i2l d_L_law_761 (by have h8 := hr1 h753; have h9 := hre h753; omega) ?_
      refine zU_lcmp d_L_law_762 (by have h8 := hr1 h753; have h9 := hre h753; omega) (by have h8 := hr1 h753; have h9 := hre h753; omega) ?_
      refine zU_if_eq 768 d_L_law_763 (by decide) (lc_r _ _) (fun h763 => ?_) (fun h763 => ?_)
      · refine zU_goto 1107 d_L_law_768 (by decide) ?_
        refine zU.drop 5 (L' := [some (zp 77), some (zp 0), some (zp 51), some (zp 76), some (zi i), none, some (zi (r735))]) rfl ?_
        refine zU.drop 6 (L' := [some (zp 77), some (zp 0), some (zp 51), some (zp 76), some (zi i), none, none]) rfl ?_
        refine zU.widen (n' := n + 3) (by omega) ?_
        exact hK _ _ _ hC2 hR2
      · exact absurd (lc_0 (hre h753)) h763
  · exact absurd hte.symm h746
set_option maxRecDepth 100000 in
set_option maxHeartbeats 4000000 in
theorem law_c11 {Γ : zG} {N : Nat} {xs : Nat → Int32} {k0 s0 : Nat} {Fn : State → Prop} {n : Nat} {i : Int} {a : aT} {v : vT} {μ : zM} (hs : zScr Γ N xs) (hL : N ≤ 2147483647) (hi : 0 ≤ i ∧ i + 5 ≤ N) (hn : n + k0 + 9 ≤ 601024 ∧ 6 * n + s0 + 54 ≤ 7293034) (hC0 : cWor a v μ) (hR0 : rWor a v μ)
    (hK : ∀ (a' : aT) (v' : vT) (μ' : zM), cWor a' v' μ' → rWor a' v' μ' → zU Γ b_L_law n_L 7 (some .boolean) [] room_1 k0 s0 Fn false (n + 3) μ' 1107 [some (zp 77), some (zp 0), some (zp 51), some (zp 76), some (zi i), none, none] []) :
    zU Γ b_L_law n_L 7 (some .boolean) [] room_1 k0 s0 Fn false n μ 771 [some (zp 77), some (zp 0), some (zp 51), some (zp 76), some (zi i), none, none] [] := by
  refine zU_aload_n d_L_law_771 rfl ?_
  refine zU_aload_n d_L_law_772 rfl ?_
  refine zU_iload d_L_law_773 rfl ?_
  refine zU_iconst d_L_law_775 ?_
  refine zU_iadd d_L_law_776 ?_
  refine zU_sld hs hL d_L_law_777 (by omega) ?_
  refine zU_aload_n d_L_law_778 rfl ?_
  refine zU_callSi [zp 0, zi (sx xs (i + 1)), zp 76] d_L_law_779 k_L_119 rfl ⟨by decide, by decide, by show _ ≤ 601024; omega, by show _ ≤ 7293034; omega⟩ (Nat.le_of_ble_eq_true rfl) (fun l => m_L_whyEvent l μ hC0 (sx_r xs _)) (fun r779 μ779 h779 => ?_)
  obtain ⟨⟨r1, hA1, hr1⟩, hq1⟩ := h779
  have ht1 : 0 ≤ r779 ∧ r779 ≤ 2 := by rcases hA1 with ⟨h, _⟩ | ⟨h, _⟩ | ⟨h, _⟩ <;> omega
  have hC1 : cWor a v μ779 := cWor_fr hC0 (fun q hq => hq1 q (by omega))
  have hR1 : rWor a v μ779 := rWor_fr2 hR0 (fun q h1 h2 => hq1 q h2)
  refine zU_istore d_L_law_782 (by decide) ?_
  refine zU.eqL (L' := [some (zp 77), some (zp 0), some (zp 51), some (zp 76), some (zi i), some (zi (r779)), none]) rfl ?_
  refine zU_aload_n d_L_law_784 rfl ?_
  refine zU_aload_n d_L_law_785 rfl ?_
  refine zU_iload d_L_law_786 rfl ?_
  refine zU_iconst d_L_law_788 ?_
  refine zU_iadd d_L_law_789 ?_
  refine zU_sld hs hL d_L_law_790 (by omega) ?_
  refine zU_callVi (p0 := 51) [zi (sx xs (i + 1))] d_L_law_791 k_L_121 rfl (by decide) rfl rfl ⟨by decide, by decide, by show _ ≤ 601024; omega, by show _ ≤ 7293034; omega⟩ (Nat.le_of_ble_eq_true rfl) (fun l => m_R_whyEvent l μ779 hR1 (sx_r xs _)) (fun r791 μ791 h791 => ?_)
  obtain ⟨hA2, hR2, hq2⟩ := h791
  obtain ⟨hte, hre⟩ := aWhyE_un hA1 hA2
  have hC2 := cWor_fr hC1 (fun q hq => hq2 q (Or.inl hq))
  have h76 : μ791 76 = μ779 76 := hq2 76 (Or.inr rfl)
  refine zU_istore d_L_law_794 (by decide) ?_
  refine zU.eqL (L' := [some (zp 77), some (zp 0), some (zp 51), some (zp 76), some (zi i), some (zi (r779)), some (zi (r791))]) rfl ?_
  refine zU_aload_n d_L_law_796 rfl ?_
  refine zU_callVi (p0 := 51) [] d_L_law_797 k_L_79 rfl (by decide) rfl rfl ⟨by decide, by decide, by show _ ≤ 601024; omega, by show _ ≤ 7293034; omega⟩ (Nat.le_of_ble_eq_true rfl) (fun l => m_R_thrown l μ791) (fun r797 μ797 h797 => ?_)
  obtain ⟨hμ797, rfl⟩ := h797
  replace hμ797 := hμ797.symm
  subst hμ797
  refine zU_iload d_L_law_800 rfl ?_
  refine zU_icmp_eq 807 d_L_law_802 (by decide) (by omega) (by omega) (fun h802 => ?_) (fun h802 => ?_)
  · refine zU_iload d_L_law_807 rfl ?_
    refine zU_if_ne 824 d_L_law_809 (by decide) (by omega) (fun h809 => ?_) (fun h809 => ?_)
    · refine zU_goto 1107 d_L_law_824 (by decide) ?_
      refine zU.drop 5 (L' := [some (zp 77), some (zp 0), some (zp 51), some (zp 76), some (zi i), none, some (zi (r791))]) rfl ?_
      refine zU.drop 6 (L' := [some (zp 77), some (zp 0), some (zp 51), some (zp 76), some (zi i), none, none]) rfl ?_
      refine zU.widen (n' := n + 3) (by omega) ?_
      exact hK _ _ _ hC2 hR2
    · refine zU_aload_n d_L_law_812 rfl ?_
      refine zU_iconst d_L_law_813 ?_
      refine zU_lald (v := r1) d_L_law_814 (by decide) rfl (by decide) (by omega) (by rw [h76]; exact (hr1 h809).1) ?_
      refine zU_iload d_L_law_815 rfl ?_
      refine zU_i2l d_L_law_817 (by have h8 := hr1 h809; have h9 := hre h809; omega) ?_
      refine zU_lcmp d_L_law_818 (by have h8 := hr1 h809; have h9 := hre h809; omega) (by have h8 := hr1 h809; have h9 := hre h809; omega) ?_
      refine zU_if_eq 824 d_L_law_819 (by decide) (lc_r _ _) (fun h819 => ?_) (fun h819 => ?_)
      · refine zU_goto 1107 d_L_law_824 (by decide) ?_
        refine zU.drop 5 (L' := [some (zp 77), some (zp 0), some (zp 51), some (zp 76), some (zi i), none, some (zi (r791))]) rfl ?_
        refine zU.drop 6 (L' := [some (zp 77), some (zp 0), some (zp 51), some (zp 76), some (zi i), none, none]) rfl ?_
        refine zU.widen (n' := n + 3) (by omega) ?_
        exact hK _ _ _ hC2 hR2
      · exact absurd (lc_0 (hre h809)) h819
  · exact absurd hte.symm h802
set_option maxRecDepth 100000 in
set_option maxHeartbeats 4000000 in
theorem law_c12 {Γ : zG} {N : Nat} {xs : Nat → Int32} {k0 s0 : Nat} {Fn : State → Prop} {n : Nat} {i : Int} {a : aT} {v : vT} {μ : zM} (hs : zScr Γ N xs) (hL : N ≤ 2147483647) (hi : 0 ≤ i ∧ i + 5 ≤ N) (hn : n + k0 + 9 ≤ 601024 ∧ 6 * n + s0 + 54 ≤ 7293034) (hC0 : cWor a v μ) (hR0 : rWor a v μ)
    (hK : ∀ (a' : aT) (v' : vT) (μ' : zM), cWor a' v' μ' → rWor a' v' μ' → zU Γ b_L_law n_L 7 (some .boolean) [] room_1 k0 s0 Fn false (n + 3) μ' 1107 [some (zp 77), some (zp 0), some (zp 51), some (zp 76), some (zi i), none, none] []) :
    zU Γ b_L_law n_L 7 (some .boolean) [] room_1 k0 s0 Fn false n μ 827 [some (zp 77), some (zp 0), some (zp 51), some (zp 76), some (zi i), none, none] [] := by
  refine zU_aload_n d_L_law_827 rfl ?_
  refine zU_aload_n d_L_law_828 rfl ?_
  refine zU_iload d_L_law_829 rfl ?_
  refine zU_iconst d_L_law_831 ?_
  refine zU_iadd d_L_law_832 ?_
  refine zU_sld hs hL d_L_law_833 (by omega) ?_
  refine zU_aload_n d_L_law_834 rfl ?_
  refine zU_iload d_L_law_835 rfl ?_
  refine zU_iconst d_L_law_837 ?_
  refine zU_iadd d_L_law_838 ?_
  refine zU_sld hs hL d_L_law_839 (by omega) ?_
  refine zU_aload_n d_L_law_840 rfl ?_
  refine zU_callSi [zp 0, zi (sx xs (i + 1)), zi (sx xs (i + 2)), zp 76] d_L_law_841 k_L_122 rfl ⟨by decide, by decide, by show _ ≤ 601024; omega, by show _ ≤ 7293034; omega⟩ (Nat.le_of_ble_eq_true rfl) (fun l => m_L_conflict l μ hC0 (sx_r xs _) (sx_r xs _)) (fun r841 μ841 h841 => ?_)
  obtain ⟨⟨r1, hA1, hC1, hr1⟩, hq1⟩ := h841
  have ht1 : 0 ≤ r841 ∧ r841 ≤ 2 := by rcases hA1 with ⟨h, _⟩ | ⟨h, _⟩ <;> omega
  have hR1 : rWor a v μ841 := rWor_fr2 hR0 hq1
  refine zU_istore d_L_law_844 (by decide) ?_
  refine zU.eqL (L' := [some (zp 77), some (zp 0), some (zp 51), some (zp 76), some (zi i), some (zi (r841)), none]) rfl ?_
  refine zU_aload_n d_L_law_846 rfl ?_
  refine zU_aload_n d_L_law_847 rfl ?_
  refine zU_iload d_L_law_848 rfl ?_
  refine zU_iconst d_L_law_850 ?_
  refine zU_iadd d_L_law_851 ?_
  refine zU_sld hs hL d_L_law_852 (by omega) ?_
  refine zU_aload_n d_L_law_853 rfl ?_
  refine zU_iload d_L_law_854 rfl ?_
  refine zU_iconst d_L_law_856 ?_
  refine zU_iadd d_L_law_857 ?_
  refine zU_sld hs hL d_L_law_858 (by omega) ?_
  refine zU_callVi (p0 := 51) [zi (sx xs (i + 1)), zi (sx xs (i + 2))] d_L_law_859 k_L_124 rfl (by decide) rfl rfl ⟨by decide, by decide, by show _ ≤ 601024; omega, by show _ ≤ 7293034; omega⟩ (Nat.le_of_ble_eq_true rfl) (fun l => m_R_conflict l μ841 hR1 (sx_r xs _) (sx_r xs _) hA1) (fun r859 μ859 h859 => ?_)
  obtain ⟨hte', hre', hR2, hq2⟩ := h859
  have hte : r841 = μ859 51 0 := hte'.symm
  have hre : r841 = 0 → r1 = r859 := fun h => (hre' h).symm
  have hC2 := cWor_fr hC1 (fun q hq => hq2 q (Or.inl hq))
  have h76 : μ859 76 = μ841 76 := hq2 76 (Or.inr rfl)
  refine zU_istore d_L_law_862 (by decide) ?_
  refine zU.eqL (L' := [some (zp 77), some (zp 0), some (zp 51), some (zp 76), some (zi i), some (zi (r841)), some (zi (r859))]) rfl ?_
  refine zU_aload_n d_L_law_864 rfl ?_
  refine zU_callVi (p0 := 51) [] d_L_law_865 k_L_79 rfl (by decide) rfl rfl ⟨by decide, by decide, by show _ ≤ 601024; omega, by show _ ≤ 7293034; omega⟩ (Nat.le_of_ble_eq_true rfl) (fun l => m_R_thrown l μ859) (fun r865 μ865 h865 => ?_)
  obtain ⟨hμ865, rfl⟩ := h865
  replace hμ865 := hμ865.symm
  subst hμ865
  refine zU_iload d_L_law_868 rfl ?_
  refine zU_icmp_eq 875 d_L_law_870 (by decide) (by omega) (by omega) (fun h870 => ?_) (fun h870 => ?_)
  · refine zU_iload d_L_law_875 rfl ?_
    refine zU_if_ne 892 d_L_law_877 (by decide) (by omega) (fun h877 => ?_) (fun h877 => ?_)
    · refine zU_goto 1107 d_L_law_892 (by decide) ?_
      refine zU.drop 5 (L' := [some (zp 77), some (zp 0), some (zp 51), some (zp 76), some (zi i), none, some (zi (r859))]) rfl ?_
      refine zU.drop 6 (L' := [some (zp 77), some (zp 0), some (zp 51), some (zp 76), some (zi i), none, none]) rfl ?_
      refine zU.widen (n' := n + 3) (by omega) ?_
      exact hK _ _ _ hC2 hR2
    · refine zU_aload_n d_L_law_880 rfl ?_
      refine zU_iconst d_L_law_881 ?_
      refine zU_lald (v := r1) d_L_law_882 (by decide) rfl (by decide) (by omega) (by rw [h76]; exact (hr1 h877).1) ?_
      refine zU_iload d_L_law_883 rfl ?_
      refine zU_i2l d_L_law_885 (by have h8 := hr1 h877; have h9 := hre h877; omega) ?_
      refine zU_lcmp d_L_law_886 (by have h8 := hr1 h877; have h9 := hre h877; omega) (by have h8 := hr1 h877; have h9 := hre h877; omega) ?_
      refine zU_if_eq 892 d_L_law_887 (by decide) (lc_r _ _) (fun h887 => ?_) (fun h887 => ?_)
      · refine zU_goto 1107 d_L_law_892 (by decide) ?_
        refine zU.drop 5 (L' := [some (zp 77), some (zp 0), some (zp 51), some (zp 76), some (zi i), none, some (zi (r859))]) rfl ?_
        refine zU.drop 6 (L' := [some (zp 77), some (zp 0), some (zp 51), some (zp 76), some (zi i), none, none]) rfl ?_
        refine zU.widen (n' := n + 3) (by omega) ?_
        exact hK _ _ _ hC2 hR2
      · exact absurd (lc_0 (hre h877)) h887
  · exact absurd hte.symm h870
set_option maxRecDepth 100000 in
set_option maxHeartbeats 4000000 in
theorem law_c13 {Γ : zG} {N : Nat} {xs : Nat → Int32} {k0 s0 : Nat} {Fn : State → Prop} {n : Nat} {i : Int} {a : aT} {v : vT} {μ : zM} (hs : zScr Γ N xs) (hL : N ≤ 2147483647) (hi : 0 ≤ i ∧ i + 5 ≤ N) (hn : n + k0 + 9 ≤ 601024 ∧ 6 * n + s0 + 54 ≤ 7293034) (hC0 : cWor a v μ) (hR0 : rWor a v μ)
    (hK : ∀ (a' : aT) (v' : vT) (μ' : zM), cWor a' v' μ' → rWor a' v' μ' → zU Γ b_L_law n_L 7 (some .boolean) [] room_1 k0 s0 Fn false (n + 3) μ' 1107 [some (zp 77), some (zp 0), some (zp 51), some (zp 76), some (zi i), none, none] []) :
    zU Γ b_L_law n_L 7 (some .boolean) [] room_1 k0 s0 Fn false n μ 895 [some (zp 77), some (zp 0), some (zp 51), some (zp 76), some (zi i), none, none] [] := by
  refine zU_aload_n d_L_law_895 rfl ?_
  refine zU_aload_n d_L_law_896 rfl ?_
  refine zU_iload d_L_law_897 rfl ?_
  refine zU_iconst d_L_law_899 ?_
  refine zU_iadd d_L_law_900 ?_
  refine zU_sld hs hL d_L_law_901 (by omega) ?_
  refine zU_aload_n d_L_law_902 rfl ?_
  refine zU_callSi [zp 0, zi (sx xs (i + 1)), zp 76] d_L_law_903 k_L_125 rfl ⟨by decide, by decide, by show _ ≤ 601024; omega, by show _ ≤ 7293034; omega⟩ (Nat.le_of_ble_eq_true rfl) (fun l => m_L_act l μ hC0 (sx_r xs _)) (fun r903 μ903 h903 => ?_)
  obtain ⟨⟨r1, v1, hA1, hC1, hr1⟩, hq1⟩ := h903
  have ht1 : 0 ≤ r903 ∧ r903 ≤ 2 := by rcases hA1 with ⟨h, _⟩ | ⟨h, _⟩ | ⟨h, _⟩ <;> omega
  have hR1 : rWor a v μ903 := rWor_fr2 hR0 hq1
  refine zU_istore d_L_law_906 (by decide) ?_
  refine zU.eqL (L' := [some (zp 77), some (zp 0), some (zp 51), some (zp 76), some (zi i), some (zi (r903)), none]) rfl ?_
  refine zU_aload_n d_L_law_908 rfl ?_
  refine zU_aload_n d_L_law_909 rfl ?_
  refine zU_iload d_L_law_910 rfl ?_
  refine zU_iconst d_L_law_912 ?_
  refine zU_iadd d_L_law_913 ?_
  refine zU_sld hs hL d_L_law_914 (by omega) ?_
  refine zU_callVi (p0 := 51) [zi (sx xs (i + 1))] d_L_law_915 k_L_127 rfl (by decide) rfl rfl ⟨by decide, by decide, by show _ ≤ 601024; omega, by show _ ≤ 7293034; omega⟩ (Nat.le_of_ble_eq_true rfl) (fun l => m_R_act l μ903 hR1 (sx_r xs _)) (fun r915 μ915 h915 => ?_)
  obtain ⟨⟨v2, hA2, hR2⟩, hq2⟩ := h915
  obtain ⟨hte, hre, hve⟩ := aAct_un hA1 hA2
  subst hve
  have hC2 := cWor_fr hC1 (fun q hq => hq2 q (Or.inl hq))
  have h76 : μ915 76 = μ903 76 := hq2 76 (Or.inr rfl)
  refine zU_istore d_L_law_918 (by decide) ?_
  refine zU.eqL (L' := [some (zp 77), some (zp 0), some (zp 51), some (zp 76), some (zi i), some (zi (r903)), some (zi (r915))]) rfl ?_
  refine zU_aload_n d_L_law_920 rfl ?_
  refine zU_callVi (p0 := 51) [] d_L_law_921 k_L_79 rfl (by decide) rfl rfl ⟨by decide, by decide, by show _ ≤ 601024; omega, by show _ ≤ 7293034; omega⟩ (Nat.le_of_ble_eq_true rfl) (fun l => m_R_thrown l μ915) (fun r921 μ921 h921 => ?_)
  obtain ⟨hμ921, rfl⟩ := h921
  replace hμ921 := hμ921.symm
  subst hμ921
  refine zU_iload d_L_law_924 rfl ?_
  refine zU_icmp_eq 931 d_L_law_926 (by decide) (by omega) (by omega) (fun h926 => ?_) (fun h926 => ?_)
  · refine zU_iload d_L_law_931 rfl ?_
    refine zU_if_ne 948 d_L_law_933 (by decide) (by omega) (fun h933 => ?_) (fun h933 => ?_)
    · refine zU_goto 1107 d_L_law_948 (by decide) ?_
      refine zU.drop 5 (L' := [some (zp 77), some (zp 0), some (zp 51), some (zp 76), some (zi i), none, some (zi (r915))]) rfl ?_
      refine zU.drop 6 (L' := [some (zp 77), some (zp 0), some (zp 51), some (zp 76), some (zi i), none, none]) rfl ?_
      refine zU.widen (n' := n + 3) (by omega) ?_
      exact hK _ _ _ hC2 hR2
    · refine zU_aload_n d_L_law_936 rfl ?_
      refine zU_iconst d_L_law_937 ?_
      refine zU_lald (v := r1) d_L_law_938 (by decide) rfl (by decide) (by omega) (by rw [h76]; exact (hr1 h933).1) ?_
      refine zU_iload d_L_law_939 rfl ?_
      refine zU_i2l d_L_law_941 (by have h8 := hr1 h933; have h9 := hre h933; omega) ?_
      refine zU_lcmp d_L_law_942 (by have h8 := hr1 h933; have h9 := hre h933; omega) (by have h8 := hr1 h933; have h9 := hre h933; omega) ?_
      refine zU_if_eq 948 d_L_law_943 (by decide) (lc_r _ _) (fun h943 => ?_) (fun h943 => ?_)
      · refine zU_goto 1107 d_L_law_948 (by decide) ?_
        refine zU.drop 5 (L' := [some (zp 77), some (zp 0), some (zp 51), some (zp 76), some (zi i), none, some (zi (r915))]) rfl ?_
        refine zU.drop 6 (L' := [some (zp 77), some (zp 0), some (zp 51), some (zp 76), some (zi i), none, none]) rfl ?_
        refine zU.widen (n' := n + 3) (by omega) ?_
        exact hK _ _ _ hC2 hR2
      · exact absurd (lc_0 (hre h933)) h943
  · exact absurd hte.symm h926
set_option maxRecDepth 100000 in
set_option maxHeartbeats 4000000 in
theorem law_c14 {Γ : zG} {N : Nat} {xs : Nat → Int32} {k0 s0 : Nat} {Fn : State → Prop} {n : Nat} {i : Int} {a : aT} {v : vT} {μ : zM} (hs : zScr Γ N xs) (hL : N ≤ 2147483647) (hi : 0 ≤ i ∧ i + 5 ≤ N) (hn : n + k0 + 9 ≤ 601024 ∧ 6 * n + s0 + 54 ≤ 7293034) (hC0 : cWor a v μ) (hR0 : rWor a v μ)
    (hK : ∀ (a' : aT) (v' : vT) (μ' : zM), cWor a' v' μ' → rWor a' v' μ' → zU Γ b_L_law n_L 7 (some .boolean) [] room_1 k0 s0 Fn false (n + 3) μ' 1107 [some (zp 77), some (zp 0), some (zp 51), some (zp 76), some (zi i), none, none] []) :
    zU Γ b_L_law n_L 7 (some .boolean) [] room_1 k0 s0 Fn false n μ 951 [some (zp 77), some (zp 0), some (zp 51), some (zp 76), some (zi i), none, none] [] := by
  refine zU_aload_n d_L_law_951 rfl ?_
  refine zU_callSi [zp 0] d_L_law_952 k_L_128 rfl ⟨by decide, by decide, by show _ ≤ 601024; omega, by show _ ≤ 7293034; omega⟩ (Nat.le_of_ble_eq_true rfl) (fun l => m_L_reset l μ hC0) (fun r952 μ952 h952 => ?_)
  obtain ⟨⟨v1, hA1, hC1⟩, hq1⟩ := h952
  have ht1 : 0 ≤ r952 ∧ r952 ≤ 2 := by rcases hA1 with ⟨h, _⟩ | ⟨h, _⟩ <;> omega
  have hR1 : rWor a v μ952 := rWor_fr2 hR0 (fun q h1 _ => hq1 q h1)
  refine zU_istore d_L_law_955 (by decide) ?_
  refine zU.eqL (L' := [some (zp 77), some (zp 0), some (zp 51), some (zp 76), some (zi i), some (zi (r952)), none]) rfl ?_
  refine zU_aload_n d_L_law_957 rfl ?_
  refine zU_callVv (p0 := 51) [] d_L_law_958 k_L_131 rfl (by decide) rfl rfl ⟨by decide, by decide, by show _ ≤ 601024; omega, by show _ ≤ 7293034; omega⟩ (Nat.le_of_ble_eq_true rfl) (fun l => m_R_reset l μ952 hR1) (fun μ958 h958 => ?_)
  obtain ⟨⟨v2, hA2, hR2⟩, hq2⟩ := h958
  obtain ⟨hte, hve⟩ := aReset_un hA1 hA2
  subst hve
  have hC2 := cWor_fr hC1 (fun q hq => hq2 q (Or.inl hq))
  refine zU_aload_n d_L_law_961 rfl ?_
  refine zU_callVi (p0 := 51) [] d_L_law_962 k_L_79 rfl (by decide) rfl rfl ⟨by decide, by decide, by show _ ≤ 601024; omega, by show _ ≤ 7293034; omega⟩ (Nat.le_of_ble_eq_true rfl) (fun l => m_R_thrown l μ958) (fun r962 μ962 h962 => ?_)
  obtain ⟨hμ962, rfl⟩ := h962
  replace hμ962 := hμ962.symm
  subst hμ962
  refine zU_iload d_L_law_965 rfl ?_
  refine zU_icmp_eq 972 d_L_law_967 (by decide) (by omega) (by omega) (fun h967 => ?_) (fun h967 => ?_)
  · refine zU_goto 1107 d_L_law_972 (by decide) ?_
    refine zU.drop 5 (L' := [some (zp 77), some (zp 0), some (zp 51), some (zp 76), some (zi i), none, none]) rfl ?_
    refine zU.widen (n' := n + 3) (by omega) ?_
    exact hK _ _ _ hC2 hR2
  · exact absurd hte.symm h967
set_option maxRecDepth 100000 in
set_option maxHeartbeats 4000000 in
theorem law_c15 {Γ : zG} {N : Nat} {xs : Nat → Int32} {k0 s0 : Nat} {Fn : State → Prop} {n : Nat} {i : Int} {a : aT} {v : vT} {μ : zM} (hs : zScr Γ N xs) (hL : N ≤ 2147483647) (hi : 0 ≤ i ∧ i + 5 ≤ N) (hn : n + k0 + 9 ≤ 601024 ∧ 6 * n + s0 + 54 ≤ 7293034) (hC0 : cWor a v μ) (hR0 : rWor a v μ)
    (hK : ∀ (a' : aT) (v' : vT) (μ' : zM), cWor a' v' μ' → rWor a' v' μ' → zU Γ b_L_law n_L 7 (some .boolean) [] room_1 k0 s0 Fn false (n + 3) μ' 1107 [some (zp 77), some (zp 0), some (zp 51), some (zp 76), some (zi i), none, none] []) :
    zU Γ b_L_law n_L 7 (some .boolean) [] room_1 k0 s0 Fn false n μ 975 [some (zp 77), some (zp 0), some (zp 51), some (zp 76), some (zi i), none, none] [] := by
  refine zU_aload_n d_L_law_975 rfl ?_
  refine zU_aload_n d_L_law_976 rfl ?_
  refine zU_callSi [zp 0, zp 76] d_L_law_977 k_L_132 rfl ⟨by decide, by decide, by show _ ≤ 601024; omega, by show _ ≤ 7293034; omega⟩ (Nat.le_of_ble_eq_true rfl) (fun l => m_L_here l μ hC0 ) (fun r977 μ977 h977 => ?_)
  obtain ⟨⟨r1, hA1, hr1⟩, hq1⟩ := h977
  have ht1 : 0 ≤ r977 ∧ r977 ≤ 2 := by rcases hA1 with ⟨h, _⟩ | ⟨h, _⟩ <;> omega
  have hC1 : cWor a v μ977 := cWor_fr hC0 (fun q hq => hq1 q (by omega))
  have hR1 : rWor a v μ977 := rWor_fr2 hR0 (fun q h1 h2 => hq1 q h2)
  refine zU_istore d_L_law_980 (by decide) ?_
  refine zU.eqL (L' := [some (zp 77), some (zp 0), some (zp 51), some (zp 76), some (zi i), some (zi (r977)), none]) rfl ?_
  refine zU_aload_n d_L_law_982 rfl ?_
  refine zU_callVi (p0 := 51) [] d_L_law_983 k_L_134 rfl (by decide) rfl rfl ⟨by decide, by decide, by show _ ≤ 601024; omega, by show _ ≤ 7293034; omega⟩ (Nat.le_of_ble_eq_true rfl) (fun l => m_R_here l μ977 hR1 ) (fun r983 μ983 h983 => ?_)
  obtain ⟨hA2, hR2, hq2⟩ := h983
  obtain ⟨hte, hre⟩ := aHere_un hA1 hA2
  have hC2 := cWor_fr hC1 (fun q hq => hq2 q (Or.inl hq))
  have h76 : μ983 76 = μ977 76 := hq2 76 (Or.inr rfl)
  refine zU_istore d_L_law_986 (by decide) ?_
  refine zU.eqL (L' := [some (zp 77), some (zp 0), some (zp 51), some (zp 76), some (zi i), some (zi (r977)), some (zi (r983))]) rfl ?_
  refine zU_aload_n d_L_law_988 rfl ?_
  refine zU_callVi (p0 := 51) [] d_L_law_989 k_L_79 rfl (by decide) rfl rfl ⟨by decide, by decide, by show _ ≤ 601024; omega, by show _ ≤ 7293034; omega⟩ (Nat.le_of_ble_eq_true rfl) (fun l => m_R_thrown l μ983) (fun r989 μ989 h989 => ?_)
  obtain ⟨hμ989, rfl⟩ := h989
  replace hμ989 := hμ989.symm
  subst hμ989
  refine zU_iload d_L_law_992 rfl ?_
  refine zU_icmp_eq 999 d_L_law_994 (by decide) (by omega) (by omega) (fun h994 => ?_) (fun h994 => ?_)
  · refine zU_iload d_L_law_999 rfl ?_
    refine zU_if_ne 1016 d_L_law_1001 (by decide) (by omega) (fun h1001 => ?_) (fun h1001 => ?_)
    · refine zU_goto 1107 d_L_law_1016 (by decide) ?_
      refine zU.drop 5 (L' := [some (zp 77), some (zp 0), some (zp 51), some (zp 76), some (zi i), none, some (zi (r983))]) rfl ?_
      refine zU.drop 6 (L' := [some (zp 77), some (zp 0), some (zp 51), some (zp 76), some (zi i), none, none]) rfl ?_
      refine zU.widen (n' := n + 3) (by omega) ?_
      exact hK _ _ _ hC2 hR2
    · refine zU_aload_n d_L_law_1004 rfl ?_
      refine zU_iconst d_L_law_1005 ?_
      refine zU_lald (v := r1) d_L_law_1006 (by decide) rfl (by decide) (by omega) (by rw [h76]; exact (hr1 h1001).1) ?_
      refine zU_iload d_L_law_1007 rfl ?_
      refine zU_i2l d_L_law_1009 (by have h8 := hr1 h1001; have h9 := hre h1001; omega) ?_
      refine zU_lcmp d_L_law_1010 (by have h8 := hr1 h1001; have h9 := hre h1001; omega) (by have h8 := hr1 h1001; have h9 := hre h1001; omega) ?_
      refine zU_if_eq 1016 d_L_law_1011 (by decide) (lc_r _ _) (fun h1011 => ?_) (fun h1011 => ?_)
      · refine zU_goto 1107 d_L_law_1016 (by decide) ?_
        refine zU.drop 5 (L' := [some (zp 77), some (zp 0), some (zp 51), some (zp 76), some (zi i), none, some (zi (r983))]) rfl ?_
        refine zU.drop 6 (L' := [some (zp 77), some (zp 0), some (zp 51), some (zp 76), some (zi i), none, none]) rfl ?_
        refine zU.widen (n' := n + 3) (by omega) ?_
        exact hK _ _ _ hC2 hR2
      · exact absurd (lc_0 (hre h1001)) h1011
  · exact absurd hte.symm h994
set_option maxRecDepth 100000 in
set_option maxHeartbeats 4000000 in
theorem law_c16 {Γ : zG} {N : Nat} {xs : Nat → Int32} {k0 s0 : Nat} {Fn : State → Prop} {n : Nat} {i : Int} {a : aT} {v : vT} {μ : zM} (hs : zScr Γ N xs) (hL : N ≤ 2147483647) (hi : 0 ≤ i ∧ i + 5 ≤ N) (hn : n + k0 + 9 ≤ 601024 ∧ 6 * n + s0 + 54 ≤ 7293034) (hC0 : cWor a v μ) (hR0 : rWor a v μ)
    (hK : ∀ (a' : aT) (v' : vT) (μ' : zM), cWor a' v' μ' → rWor a' v' μ' → zU Γ b_L_law n_L 7 (some .boolean) [] room_1 k0 s0 Fn false (n + 3) μ' 1107 [some (zp 77), some (zp 0), some (zp 51), some (zp 76), some (zi i), none, none] []) :
    zU Γ b_L_law n_L 7 (some .boolean) [] room_1 k0 s0 Fn false n μ 1019 [some (zp 77), some (zp 0), some (zp 51), some (zp 76), some (zi i), none, none] [] := by
  refine zU_aload_n d_L_law_1019 rfl ?_
  refine zU_aload_n d_L_law_1020 rfl ?_
  refine zU_callSi [zp 0, zp 76] d_L_law_1021 k_L_135 rfl ⟨by decide, by decide, by show _ ≤ 601024; omega, by show _ ≤ 7293034; omega⟩ (Nat.le_of_ble_eq_true rfl) (fun l => m_L_allowed l μ hC0 ) (fun r1021 μ1021 h1021 => ?_)
  obtain ⟨⟨r1, hA1, hr1⟩, hq1⟩ := h1021
  have ht1 : 0 ≤ r1021 ∧ r1021 ≤ 2 := by rcases hA1 with ⟨h, _⟩ | ⟨h, _⟩ <;> omega
  have hC1 : cWor a v μ1021 := cWor_fr hC0 (fun q hq => hq1 q (by omega))
  have hR1 : rWor a v μ1021 := rWor_fr2 hR0 (fun q h1 h2 => hq1 q h2)
  refine zU_istore d_L_law_1024 (by decide) ?_
  refine zU.eqL (L' := [some (zp 77), some (zp 0), some (zp 51), some (zp 76), some (zi i), some (zi (r1021)), none]) rfl ?_
  refine zU_aload_n d_L_law_1026 rfl ?_
  refine zU_callVi (p0 := 51) [] d_L_law_1027 k_L_137 rfl (by decide) rfl rfl ⟨by decide, by decide, by show _ ≤ 601024; omega, by show _ ≤ 7293034; omega⟩ (Nat.le_of_ble_eq_true rfl) (fun l => m_R_allowed l μ1021 hR1 ) (fun r1027 μ1027 h1027 => ?_)
  obtain ⟨hA2, hR2, hq2⟩ := h1027
  obtain ⟨hte, hre⟩ := aAllow_un hA1 hA2
  have hC2 := cWor_fr hC1 (fun q hq => hq2 q (Or.inl hq))
  have h76 : μ1027 76 = μ1021 76 := hq2 76 (Or.inr rfl)
  refine zU_istore d_L_law_1030 (by decide) ?_
  refine zU.eqL (L' := [some (zp 77), some (zp 0), some (zp 51), some (zp 76), some (zi i), some (zi (r1021)), some (zi (r1027))]) rfl ?_
  refine zU_aload_n d_L_law_1032 rfl ?_
  refine zU_callVi (p0 := 51) [] d_L_law_1033 k_L_79 rfl (by decide) rfl rfl ⟨by decide, by decide, by show _ ≤ 601024; omega, by show _ ≤ 7293034; omega⟩ (Nat.le_of_ble_eq_true rfl) (fun l => m_R_thrown l μ1027) (fun r1033 μ1033 h1033 => ?_)
  obtain ⟨hμ1033, rfl⟩ := h1033
  replace hμ1033 := hμ1033.symm
  subst hμ1033
  refine zU_iload d_L_law_1036 rfl ?_
  refine zU_icmp_eq 1043 d_L_law_1038 (by decide) (by omega) (by omega) (fun h1038 => ?_) (fun h1038 => ?_)
  · refine zU_iload d_L_law_1043 rfl ?_
    refine zU_if_ne 1060 d_L_law_1045 (by decide) (by omega) (fun h1045 => ?_) (fun h1045 => ?_)
    · refine zU_goto 1107 d_L_law_1060 (by decide) ?_
      refine zU.drop 5 (L' := [some (zp 77), some (zp 0), some (zp 51), some (zp 76), some (zi i), none, some (zi (r1027))]) rfl ?_
      refine zU.drop 6 (L' := [some (zp 77), some (zp 0), some (zp 51), some (zp 76), some (zi i), none, none]) rfl ?_
      refine zU.widen (n' := n + 3) (by omega) ?_
      exact hK _ _ _ hC2 hR2
    · refine zU_aload_n d_L_law_1048 rfl ?_
      refine zU_iconst d_L_law_1049 ?_
      refine zU_lald (v := r1) d_L_law_1050 (by decide) rfl (by decide) (by omega) (by rw [h76]; exact (hr1 h1045).1) ?_
      refine zU_iload d_L_law_1051 rfl ?_
      refine zU_i2l d_L_law_1053 (by have h8 := hr1 h1045; have h9 := hre h1045; omega) ?_
      refine zU_lcmp d_L_law_1054 (by have h8 := hr1 h1045; have h9 := hre h1045; omega) (by have h8 := hr1 h1045; have h9 := hre h1045; omega) ?_
      refine zU_if_eq 1060 d_L_law_1055 (by decide) (lc_r _ _) (fun h1055 => ?_) (fun h1055 => ?_)
      · refine zU_goto 1107 d_L_law_1060 (by decide) ?_
        refine zU.drop 5 (L' := [some (zp 77), some (zp 0), some (zp 51), some (zp 76), some (zi i), none, some (zi (r1027))]) rfl ?_
        refine zU.drop 6 (L' := [some (zp 77), some (zp 0), some (zp 51), some (zp 76), some (zi i), none, none]) rfl ?_
        refine zU.widen (n' := n + 3) (by omega) ?_
        exact hK _ _ _ hC2 hR2
      · exact absurd (lc_0 (hre h1045)) h1055
  · exact absurd hte.symm h1038
set_option maxRecDepth 100000 in
set_option maxHeartbeats 4000000 in
theorem law_c17 {Γ : zG} {N : Nat} {xs : Nat → Int32} {k0 s0 : Nat} {Fn : State → Prop} {n : Nat} {i : Int} {a : aT} {v : vT} {μ : zM} (hs : zScr Γ N xs) (hL : N ≤ 2147483647) (hi : 0 ≤ i ∧ i + 5 ≤ N) (hn : n + k0 + 9 ≤ 601024 ∧ 6 * n + s0 + 54 ≤ 7293034) (hC0 : cWor a v μ) (hR0 : rWor a v μ)
    (hK : ∀ (a' : aT) (v' : vT) (μ' : zM), cWor a' v' μ' → rWor a' v' μ' → zU Γ b_L_law n_L 7 (some .boolean) [] room_1 k0 s0 Fn false (n + 3) μ' 1107 [some (zp 77), some (zp 0), some (zp 51), some (zp 76), some (zi i), none, none] []) :
    zU Γ b_L_law n_L 7 (some .boolean) [] room_1 k0 s0 Fn false n μ 1063 [some (zp 77), some (zp 0), some (zp 51), some (zp 76), some (zi i), none, none] [] := by
  refine zU_aload_n d_L_law_1063 rfl ?_
  refine zU_aload_n d_L_law_1064 rfl ?_
  refine zU_callSi [zp 0, zp 76] d_L_law_1065 k_L_138 rfl ⟨by decide, by decide, by show _ ≤ 601024; omega, by show _ ≤ 7293034; omega⟩ (Nat.le_of_ble_eq_true rfl) (fun l => m_L_home l μ hC0 ) (fun r1065 μ1065 h1065 => ?_)
  obtain ⟨⟨r1, hA1, hr1⟩, hq1⟩ := h1065
  have ht1 : 0 ≤ r1065 ∧ r1065 ≤ 2 := by rcases hA1 with ⟨h, _⟩ | ⟨h, _⟩ <;> omega
  have hC1 : cWor a v μ1065 := cWor_fr hC0 (fun q hq => hq1 q (by omega))
  have hR1 : rWor a v μ1065 := rWor_fr2 hR0 (fun q h1 h2 => hq1 q h2)
  refine zU_istore d_L_law_1068 (by decide) ?_
  refine zU.eqL (L' := [some (zp 77), some (zp 0), some (zp 51), some (zp 76), some (zi i), some (zi (r1065)), none]) rfl ?_
  refine zU_aload_n d_L_law_1070 rfl ?_
  refine zU_callVi (p0 := 51) [] d_L_law_1071 k_L_140 rfl (by decide) rfl rfl ⟨by decide, by decide, by show _ ≤ 601024; omega, by show _ ≤ 7293034; omega⟩ (Nat.le_of_ble_eq_true rfl) (fun l => m_R_home l μ1065 hR1 ) (fun r1071 μ1071 h1071 => ?_)
  obtain ⟨hA2, hR2, hq2⟩ := h1071
  obtain ⟨hte, hre⟩ := aHome_un hA1 hA2
  have hC2 := cWor_fr hC1 (fun q hq => hq2 q (Or.inl hq))
  have h76 : μ1071 76 = μ1065 76 := hq2 76 (Or.inr rfl)
  refine zU_istore d_L_law_1074 (by decide) ?_
  refine zU.eqL (L' := [some (zp 77), some (zp 0), some (zp 51), some (zp 76), some (zi i), some (zi (r1065)), some (zi (r1071))]) rfl ?_
  refine zU_aload_n d_L_law_1076 rfl ?_
  refine zU_callVi (p0 := 51) [] d_L_law_1077 k_L_79 rfl (by decide) rfl rfl ⟨by decide, by decide, by show _ ≤ 601024; omega, by show _ ≤ 7293034; omega⟩ (Nat.le_of_ble_eq_true rfl) (fun l => m_R_thrown l μ1071) (fun r1077 μ1077 h1077 => ?_)
  obtain ⟨hμ1077, rfl⟩ := h1077
  replace hμ1077 := hμ1077.symm
  subst hμ1077
  refine zU_iload d_L_law_1080 rfl ?_
  refine zU_icmp_eq 1087 d_L_law_1082 (by decide) (by omega) (by omega) (fun h1082 => ?_) (fun h1082 => ?_)
  · refine zU_iload d_L_law_1087 rfl ?_
    refine zU_if_ne 1104 d_L_law_1089 (by decide) (by omega) (fun h1089 => ?_) (fun h1089 => ?_)
    · refine zU_goto 1107 d_L_law_1104 (by decide) ?_
      refine zU.drop 5 (L' := [some (zp 77), some (zp 0), some (zp 51), some (zp 76), some (zi i), none, some (zi (r1071))]) rfl ?_
      refine zU.drop 6 (L' := [some (zp 77), some (zp 0), some (zp 51), some (zp 76), some (zi i), none, none]) rfl ?_
      refine zU.widen (n' := n + 3) (by omega) ?_
      exact hK _ _ _ hC2 hR2
    · refine zU_aload_n d_L_law_1092 rfl ?_
      refine zU_iconst d_L_law_1093 ?_
      refine zU_lald (v := r1) d_L_law_1094 (by decide) rfl (by decide) (by omega) (by rw [h76]; exact (hr1 h1089).1) ?_
      refine zU_iload d_L_law_1095 rfl ?_
      refine zU_i2l d_L_law_1097 (by have h8 := hr1 h1089; have h9 := hre h1089; omega) ?_
      refine zU_lcmp d_L_law_1098 (by have h8 := hr1 h1089; have h9 := hre h1089; omega) (by have h8 := hr1 h1089; have h9 := hre h1089; omega) ?_
      refine zU_if_eq 1104 d_L_law_1099 (by decide) (lc_r _ _) (fun h1099 => ?_) (fun h1099 => ?_)
      · refine zU_goto 1107 d_L_law_1104 (by decide) ?_
        refine zU.drop 5 (L' := [some (zp 77), some (zp 0), some (zp 51), some (zp 76), some (zi i), none, some (zi (r1071))]) rfl ?_
        refine zU.drop 6 (L' := [some (zp 77), some (zp 0), some (zp 51), some (zp 76), some (zi i), none, none]) rfl ?_
        refine zU.widen (n' := n + 3) (by omega) ?_
        exact hK _ _ _ hC2 hR2
      · exact absurd (lc_0 (hre h1089)) h1099
  · exact absurd hte.symm h1082
