/-! the reference: a command whole -/
theorem s_X5_isIn' {v lo hi : Int} {σ : ev_M} : Ev jX5_isIn layM 0 [some (iv v), some (iv lo), some (iv hi)] [] σ (fun r σ' => ((r = 1 ∧ lo ≤ v ∧ v ≤ hi) ∨ (r = 0 ∧ ¬ (lo ≤ v ∧ v ≤ hi))) ∧ σ' = σ) := s_X5_isIn.mono (fun r σ' h => ⟨by rw [h.1]; split <;> omega, h.2⟩)
theorem t_sends {c set : Int} {x2 x3 x5 : Option ev_V} {ρ : ev_M} : Ev jX5_sends layM 362 [some (rv 0), some (iv c), x2, x3, some (iv set), x5] [] ρ (fun _ σ' => σ' = m_end c set ρ) := by
  refine Ev.aload_n dX5_sends_362 rfl ?_
  refine Ev.iload_n dX5_sends_363 rfl ?_
  refine Ev.iconst dX5_sends_364 ⟨by decide, by decide⟩ ?_
  refine Ev.icmp_ne (tgt := 373) dX5_sends_365 rfl (fun c365 => ?_) (fun c365 => ?_)
  · skip
    refine Ev.iconst dX5_sends_373 ⟨by decide, by decide⟩ ?_
    refine Ev.puti (9) dX5_sends_374 fl_X5_63 ft_5_9 lm_0 (by decide) rfl rfl ?_
    refine Ev.aload_n dX5_sends_377 rfl ?_
    refine Ev.iload_n dX5_sends_378 rfl ?_
    refine Ev.puti (8) dX5_sends_379 fl_X5_60 ft_5_8 lm_0 (by decide) rfl rfl ?_
    refine Ev.vret dX5_sends_382 rfl ?_
    unfold m_end
    first | rw [if_pos (by omega)] | rw [if_neg (by omega)]
  · skip
    refine Ev.iload dX5_sends_368 rfl ?_
    refine Ev.goto (tgt := 374) dX5_sends_370 rfl ?_
    refine Ev.puti (9) dX5_sends_374 fl_X5_63 ft_5_9 lm_0 (by decide) rfl rfl ?_
    refine Ev.aload_n dX5_sends_377 rfl ?_
    refine Ev.iload_n dX5_sends_378 rfl ?_
    refine Ev.puti (8) dX5_sends_379 fl_X5_60 ft_5_8 lm_0 (by decide) rfl rfl ?_
    refine Ev.vret dX5_sends_382 rfl ?_
    unfold m_end
    first | rw [if_pos (by omega)] | rw [if_neg (by omega)]
theorem t_sends_tl {b c set : Int} {x2 x3 : Option ev_V} {ρ0 : ev_M} (hM : MI b ρ0) (hb : b ≤ 900000000) : ∀ (j k : Nat) (ρ : ev_M), (k : Int) + j = ρ0 2 → ρ = it (m_tl c set) ρ0 k → Ev jX5_sends layM 123 [some (rv 0), some (iv c), x2, x3, some (iv set), some (iv (k : Int))] [] ρ (fun _ σ' => σ' = m_end c set (m_comes (it (m_tl c set) ρ0 (ρ0 2).toNat))) := by
  have h2 := hM.s2
  intro j
  induction j with
  | zero =>
    intro k ρ hk hρ
    have e2 : ρ 2 = ρ0 2 := by rw [hρ]; exact it_at' k (fun i σ hi => m_tl_o (by omega) (by omega) (by decide))
    have hMk := it_MI1 (fun i b τ hi h => h.tl (c := c) (set := set) (by omega) (by omega)) hM k (by omega)
    rw [← hρ] at hMk
    refine Ev.iload dX5_sends_123 rfl ?_
    refine Ev.aload_n dX5_sends_125 rfl ?_
    refine Ev.geti (2) dX5_sends_126 fl_X5_44 lm_0 (by decide) rfl rfl ?_
    refine Ev.icmp_ge (tgt := 171) dX5_sends_129 rfl (fun c129 => ?_) (fun c129 => ?_)
    · skip
      refine Ev.aload_n dX5_sends_171 rfl ?_
      refine Ev.Vv0 (I' := jX5_comes) ml_X5_104 dX5_sends_172 cyX5_comes lm_0 rfl (by decide) ⟨by decide, by decide⟩ (by simp) rfl rfl (s_X5_comes hMk (by omega) (by omega) (by omega)) (fun σ' hq => ?_)
      subst hq
      refine Ev.goto (tgt := 362) dX5_sends_175 rfl ?_
      rw [show (ρ0 2).toNat = k by omega, ← hρ]
      exact t_sends
    · skip
      exact absurd c129 (by omega)
  | succ j ih =>
    intro k ρ hk hρ
    have e2 : ρ 2 = ρ0 2 := by rw [hρ]; exact it_at' k (fun i σ hi => m_tl_o (by omega) (by omega) (by decide))
    have hMk := it_MI1 (fun i b τ hi h => h.tl (c := c) (set := set) (by omega) (by omega)) hM k (by omega)
    rw [← hρ] at hMk
    have a577 := hMk.sum (n := 577) (by decide) (by decide)
    have a7 := hMk.s7
    have a4 := hMk.h4 (d := (k : Int)) (by omega) (by omega)
    have a13 := hMk.h13 (d := (k : Int)) (by omega) (by omega)
    refine Ev.iload dX5_sends_123 rfl ?_
    refine Ev.aload_n dX5_sends_125 rfl ?_
    refine Ev.geti (2) dX5_sends_126 fl_X5_44 lm_0 (by decide) rfl rfl ?_
    refine Ev.icmp_ge (tgt := 171) dX5_sends_129 rfl (fun c129 => ?_) (fun c129 => ?_)
    · skip
      exact absurd c129 (by omega)
    · skip
      refine Ev.iload_n dX5_sends_132 rfl ?_
      refine Ev.bipush dX5_sends_133 ⟨by decide, by decide⟩ (by decide) ?_
      refine Ev.icmp_ne (tgt := 147) dX5_sends_135 rfl (fun c135 => ?_) (fun c135 => ?_)
      · skip
        refine Ev.iload dX5_sends_147 rfl ?_
        refine Ev.iload dX5_sends_149 rfl ?_
        refine Ev.ishr dX5_sends_151 ?_
        refine Ev.iconst dX5_sends_152 ⟨by decide, by decide⟩ ?_
        refine Ev.iand dX5_sends_153 ?_
        refine Ev.iconst dX5_sends_154 ⟨by decide, by decide⟩ ?_
        refine Ev.icmp_ne (tgt := 165) dX5_sends_155 rfl (fun c155 => ?_) (fun c155 => ?_)
        · skip
          refine Ev.iinc5 dX5_sends_165 (by unfold ev_in; omega) ?_
          refine Ev.goto (tgt := 123) dX5_sends_168 rfl ?_
          refine ih (k + 1) _ (by omega) ?_
          rw [show it (m_tl c set) ρ0 (k + 1) = m_tl c set (k : Int) (it (m_tl c set) ρ0 k) from rfl, ← hρ]
          unfold m_tl
          repeat (first | rw [if_pos (by omega)] | rw [if_neg (by omega)])
        · skip
          refine Ev.aload_n dX5_sends_158 rfl ?_
          refine Ev.iload dX5_sends_159 rfl ?_
          refine Ev.iload_n dX5_sends_161 rfl ?_
          refine Ev.Vv2 (I' := jX5_toListener) ml_X5_135 dX5_sends_162 cyX5_toListener lm_0 rfl (by decide) ⟨by decide, by decide⟩ (by simp) rfl rfl (s_X5_toListener (by omega) (by omega) (by unfold ev_in; omega) (by unfold ev_in; omega) (by omega)) (fun σ' hq => ?_)
          subst hq
          refine Ev.iinc5 dX5_sends_165 (by unfold ev_in; omega) ?_
          refine Ev.goto (tgt := 123) dX5_sends_168 rfl ?_
          refine ih (k + 1) _ (by omega) ?_
          rw [show it (m_tl c set) ρ0 (k + 1) = m_tl c set (k : Int) (it (m_tl c set) ρ0 k) from rfl, ← hρ]
          unfold m_tl
          repeat (first | rw [if_pos (by omega)] | rw [if_neg (by omega)])
      · skip
        refine Ev.aload_n dX5_sends_138 rfl ?_
        refine Ev.iload dX5_sends_139 rfl ?_
        refine Ev.Vv1 (I' := jX5_clears) ml_X5_111 dX5_sends_141 cyX5_clears lm_0 rfl (by decide) ⟨by decide, by decide⟩ (by simp) rfl rfl (s_X5_clears (by omega) (by omega)) (fun σ' hq => ?_)
        subst hq
        refine Ev.goto (tgt := 165) dX5_sends_144 rfl ?_
        refine Ev.iinc5 dX5_sends_165 (by unfold ev_in; omega) ?_
        refine Ev.goto (tgt := 123) dX5_sends_168 rfl ?_
        refine ih (k + 1) _ (by omega) ?_
        rw [show it (m_tl c set) ρ0 (k + 1) = m_tl c set (k : Int) (it (m_tl c set) ρ0 k) from rfl, ← hρ]
        unfold m_tl
        repeat (first | rw [if_pos (by omega)] | rw [if_neg (by omega)])
theorem t_sends_obey {b c tl tt : Int} {x4 x5 : Option ev_V} {ρ : ev_M} (hM : MI b ρ) (hb : b ≤ 900000000) (hc0 : 0 ≤ c) (hc1 : c ≤ 127) : Ev jX5_sends layM 102 [some (rv 0), some (iv c), some (iv tl), some (iv tt), x4, x5] [] ρ (fun _ σ' => σ' = m_end c (m_lis ρ) (m_obey c tl tt ρ)) := by
  have h2 := hM.s2
  have a576 := hM.sum (n := 576) (by decide) (by decide)
  refine Ev.aload_n dX5_sends_102 rfl ?_
  refine Ev.Vi0 (I' := jX5_listeners) ml_X5_132 dX5_sends_103 cyX5_listeners lm_0 rfl (by decide) ⟨by decide, by decide⟩ (by simp) rfl rfl (s_X5_listeners (by omega) (by omega)) (fun r σ' hr103 hq => ?_)
  obtain ⟨rfl, hq⟩ := hq
  replace hq := hq.symm
  subst hq
  refine Ev.istore4 dX5_sends_106 ?_
  refine Ev.iload_n dX5_sends_108 rfl ?_
  refine Ev.bipush dX5_sends_109 ⟨by decide, by decide⟩ (by decide) ?_
  refine Ev.icmp_lt (tgt := 120) dX5_sends_111 rfl (fun c111 => ?_) (fun c111 => ?_)
  · skip
    refine Ev.iconst dX5_sends_120 ⟨by decide, by decide⟩ ?_
    refine Ev.istore5 dX5_sends_121 ?_
    refine (t_sends_tl hM hb (ρ 2).toNat 0 ρ (by omega) rfl).mono (fun _ σ' h => ?_)
    rw [h]
    unfold m_obey
    repeat (first | rw [if_pos (by omega)] | rw [if_neg (by omega)])
  · skip
    refine Ev.iload_n dX5_sends_114 rfl ?_
    refine Ev.bipush dX5_sends_115 ⟨by decide, by decide⟩ (by decide) ?_
    refine Ev.icmp_ne (tgt := 178) dX5_sends_117 rfl (fun c117 => ?_) (fun c117 => ?_)
    · skip
      refine Ev.iload_n dX5_sends_178 rfl ?_
      refine Ev.bipush dX5_sends_179 ⟨by decide, by decide⟩ (by decide) ?_
      refine Ev.icmp_ne (tgt := 191) dX5_sends_181 rfl (fun c181 => ?_) (fun c181 => ?_)
      · skip
        refine Ev.iload_n dX5_sends_191 rfl ?_
        refine Ev.bipush dX5_sends_192 ⟨by decide, by decide⟩ (by decide) ?_
        refine Ev.icmp_ne (tgt := 207) dX5_sends_194 rfl (fun c194 => ?_) (fun c194 => ?_)
        · skip
          refine Ev.iload_n dX5_sends_207 rfl ?_
          refine Ev.bipush dX5_sends_208 ⟨by decide, by decide⟩ (by decide) ?_
          refine Ev.icmp_ne (tgt := 224) dX5_sends_210 rfl (fun c210 => ?_) (fun c210 => ?_)
          · skip
            refine Ev.iload_n dX5_sends_224 rfl ?_
            refine Ev.bipush dX5_sends_225 ⟨by decide, by decide⟩ (by decide) ?_
            refine Ev.icmp_eq (tgt := 236) dX5_sends_227 rfl (fun c227 => ?_) (fun c227 => ?_)
            · skip
              refine Ev.aload_n dX5_sends_236 rfl ?_
              refine Ev.bipush dX5_sends_237 ⟨by decide, by decide⟩ (by decide) ?_
              refine Ev.iload_n dX5_sends_239 rfl ?_
              refine Ev.isub dX5_sends_240 (by unfold ev_in; omega) ?_
              refine Ev.puti (6) dX5_sends_241 fl_X5_54 ft_5_6 lm_0 (by decide) rfl rfl ?_
              refine Ev.goto (tgt := 362) dX5_sends_244 rfl ?_
              refine t_sends.mono (fun _ σ' h => ?_)
              rw [h]
              unfold m_obey
              repeat (first | rw [if_pos (by omega)] | rw [if_neg (by omega)])
            · skip
              refine Ev.iload_n dX5_sends_230 rfl ?_
              refine Ev.bipush dX5_sends_231 ⟨by decide, by decide⟩ (by decide) ?_
              refine Ev.icmp_ne (tgt := 247) dX5_sends_233 rfl (fun c233 => ?_) (fun c233 => ?_)
              · skip
                refine Ev.iload_n dX5_sends_247 rfl ?_
                refine Ev.bipush dX5_sends_248 ⟨by decide, by decide⟩ (by decide) ?_
                refine Ev.icmp_ne (tgt := 263) dX5_sends_250 rfl (fun c250 => ?_) (fun c250 => ?_)
                · skip
                  refine Ev.iload_n dX5_sends_263 rfl ?_
                  refine Ev.bipush dX5_sends_264 ⟨by decide, by decide⟩ (by decide) ?_
                  refine Ev.bipush dX5_sends_266 ⟨by decide, by decide⟩ (by decide) ?_
                  refine Ev.Si3 (I' := jX5_isIn) ml_X5_82 dX5_sends_268 cyX5_isIn (by decide) ⟨by decide, by decide⟩ (by simp) rfl rfl (s_X5_isIn') (fun r σ' hr268 hq => ?_)
                  obtain ⟨hq1, hq⟩ := hq
                  replace hq := hq.symm
                  subst hq
                  refine Ev.if_eq (tgt := 286) dX5_sends_271 rfl (fun c271 => ?_) (fun c271 => ?_)
                  · skip
                    refine Ev.iload_n dX5_sends_286 rfl ?_
                    refine Ev.bipush dX5_sends_287 ⟨by decide, by decide⟩ (by decide) ?_
                    refine Ev.bipush dX5_sends_289 ⟨by decide, by decide⟩ (by decide) ?_
                    refine Ev.Si3 (I' := jX5_isIn) ml_X5_82 dX5_sends_291 cyX5_isIn (by decide) ⟨by decide, by decide⟩ (by simp) rfl rfl (s_X5_isIn') (fun r σ' hr291 hq => ?_)
                    obtain ⟨hq1, hq⟩ := hq
                    replace hq := hq.symm
                    subst hq
                    refine Ev.if_eq (tgt := 324) dX5_sends_294 rfl (fun c294 => ?_) (fun c294 => ?_)
                    · skip
                      refine Ev.iload_n dX5_sends_324 rfl ?_
                      refine Ev.bipush dX5_sends_325 ⟨by decide, by decide⟩ (by decide) ?_
                      refine Ev.icmp_le (tgt := 362) dX5_sends_327 rfl (fun c327 => ?_) (fun c327 => ?_)
                      · skip
                        refine t_sends.mono (fun _ σ' h => ?_)
                        rw [h]
                        unfold m_obey
                        repeat (first | rw [if_pos (by omega)] | rw [if_neg (by omega)])
                      · skip
                        refine Ev.aload_n dX5_sends_330 rfl ?_
                        refine Ev.geti (8) dX5_sends_331 fl_X5_60 lm_0 (by decide) rfl rfl ?_
                        refine Ev.iconst dX5_sends_334 ⟨by decide, by decide⟩ ?_
                        refine Ev.icmp_ne (tgt := 346) dX5_sends_335 rfl (fun c335 => ?_) (fun c335 => ?_)
                        · skip
                          refine Ev.iload_n dX5_sends_346 rfl ?_
                          refine Ev.bipush dX5_sends_347 ⟨by decide, by decide⟩ (by decide) ?_
                          refine Ev.icmp_ge (tgt := 362) dX5_sends_349 rfl (fun c349 => ?_) (fun c349 => ?_)
                          · skip
                            refine t_sends.mono (fun _ σ' h => ?_)
                            rw [h]
                            unfold m_obey
                            repeat (first | rw [if_pos (by omega)] | rw [if_neg (by omega)])
                          · skip
                            refine Ev.aload_n dX5_sends_352 rfl ?_
                            refine Ev.iload_n dX5_sends_353 rfl ?_
                            refine Ev.bipush dX5_sends_354 ⟨by decide, by decide⟩ (by decide) ?_
                            refine Ev.isub dX5_sends_356 (by unfold ev_in; omega) ?_
                            refine Ev.iload_n dX5_sends_357 rfl ?_
                            refine Ev.iload_n dX5_sends_358 rfl ?_
                            refine Ev.Vv3 (I' := jX5_seconds) ml_X5_151 dX5_sends_359 cyX5_seconds lm_0 rfl (by decide) ⟨by decide, by decide⟩ (by simp) rfl rfl (s_X5_seconds (by omega) (by omega)) (fun σ' hq => ?_)
                            subst hq
                            refine t_sends.mono (fun _ σ' h => ?_)
                            rw [h]
                            unfold m_obey
                            repeat (first | rw [if_pos (by omega)] | rw [if_neg (by omega)])
                        · skip
                          refine Ev.aload_n dX5_sends_338 rfl ?_
                          refine Ev.iload_n dX5_sends_339 rfl ?_
                          refine Ev.Vv1 (I' := jX5_prepares) ml_X5_148 dX5_sends_340 cyX5_prepares lm_0 rfl (by decide) ⟨by decide, by decide⟩ (by simp) rfl rfl (s_X5_prepares (by omega) (by omega) (by omega) (by omega)) (fun σ' hq => ?_)
                          subst hq
                          refine Ev.goto (tgt := 362) dX5_sends_343 rfl ?_
                          refine t_sends.mono (fun _ σ' h => ?_)
                          rw [h]
                          unfold m_obey
                          repeat (first | rw [if_pos (by omega)] | rw [if_neg (by omega)])
                    · skip
                      refine Ev.aload_n dX5_sends_297 rfl ?_
                      refine Ev.Vv0 (I' := jX5_silences) ml_X5_123 dX5_sends_298 cyX5_silences lm_0 rfl (by decide) ⟨by decide, by decide⟩ (by simp) rfl rfl (s_X5_silences (by omega) (by omega)) (fun σ' hq => ?_)
                      subst hq
                      refine Ev.aload_n dX5_sends_301 rfl ?_
                      refine Ev.iload_n dX5_sends_302 rfl ?_
                      refine Ev.bipush dX5_sends_303 ⟨by decide, by decide⟩ (by decide) ?_
                      refine Ev.icmp_ne (tgt := 313) dX5_sends_305 rfl (fun c305 => ?_) (fun c305 => ?_)
                      · skip
                        refine Ev.iload_n dX5_sends_313 rfl ?_
                        refine Ev.bipush dX5_sends_314 ⟨by decide, by decide⟩ (by decide) ?_
                        refine Ev.isub dX5_sends_316 (by unfold ev_in; omega) ?_
                        refine Ev.iconst dX5_sends_317 ⟨by decide, by decide⟩ ?_
                        refine Ev.Vv2 (I' := jX5_addresses) ml_X5_145 dX5_sends_318 cyX5_addresses lm_0 rfl (by decide) ⟨by decide, by decide⟩ (by simp) rfl rfl (s_X5_addresses (by first | omega | (rw [it_all_o (by omega) (by decide) (by decide) (by decide)]; omega)) (by first | omega | (rw [it_all_o (by omega) (by decide) (by decide) (by decide)]; omega))) (fun σ' hq => ?_)
                        subst hq
                        try rw [it_all_o (by omega) (by decide) (by decide) (Or.inl (by decide))]
                        refine Ev.goto (tgt := 362) dX5_sends_321 rfl ?_
                        refine t_sends.mono (fun _ σ' h => ?_)
                        rw [h]
                        unfold m_obey
                        repeat (first | rw [if_pos (by omega)] | rw [if_neg (by omega)])
                      · skip
                        refine Ev.bipush dX5_sends_308 ⟨by decide, by decide⟩ (by decide) ?_
                        refine Ev.goto (tgt := 317) dX5_sends_310 rfl ?_
                        refine Ev.iconst dX5_sends_317 ⟨by decide, by decide⟩ ?_
                        refine Ev.Vv2 (I' := jX5_addresses) ml_X5_145 dX5_sends_318 cyX5_addresses lm_0 rfl (by decide) ⟨by decide, by decide⟩ (by simp) rfl rfl (s_X5_addresses (by first | omega | (rw [it_all_o (by omega) (by decide) (by decide) (by decide)]; omega)) (by first | omega | (rw [it_all_o (by omega) (by decide) (by decide) (by decide)]; omega))) (fun σ' hq => ?_)
                        subst hq
                        try rw [it_all_o (by omega) (by decide) (by decide) (Or.inl (by decide))]
                        refine Ev.goto (tgt := 362) dX5_sends_321 rfl ?_
                        refine t_sends.mono (fun _ σ' h => ?_)
                        rw [h]
                        unfold m_obey
                        repeat (first | rw [if_pos (by omega)] | rw [if_neg (by omega)])
                  · skip
                    refine Ev.aload_n dX5_sends_274 rfl ?_
                    refine Ev.iload_n dX5_sends_275 rfl ?_
                    refine Ev.bipush dX5_sends_276 ⟨by decide, by decide⟩ (by decide) ?_
                    refine Ev.isub dX5_sends_278 (by unfold ev_in; omega) ?_
                    refine Ev.iconst dX5_sends_279 ⟨by decide, by decide⟩ ?_
                    refine Ev.Vv2 (I' := jX5_addresses) ml_X5_145 dX5_sends_280 cyX5_addresses lm_0 rfl (by decide) ⟨by decide, by decide⟩ (by simp) rfl rfl (s_X5_addresses (by first | omega | (rw [it_all_o (by omega) (by decide) (by decide) (by decide)]; omega)) (by first | omega | (rw [it_all_o (by omega) (by decide) (by decide) (by decide)]; omega))) (fun σ' hq => ?_)
                    subst hq
                    try rw [it_all_o (by omega) (by decide) (by decide) (Or.inl (by decide))]
                    refine Ev.goto (tgt := 362) dX5_sends_283 rfl ?_
                    refine t_sends.mono (fun _ σ' h => ?_)
                    rw [h]
                    unfold m_obey
                    repeat (first | rw [if_pos (by omega)] | rw [if_neg (by omega)])
                · skip
                  refine Ev.aload_n dX5_sends_253 rfl ?_
                  refine Ev.bipush dX5_sends_254 ⟨by decide, by decide⟩ (by decide) ?_
                  refine Ev.iconst dX5_sends_256 ⟨by decide, by decide⟩ ?_
                  refine Ev.Vv2 (I' := jX5_all) ml_X5_142 dX5_sends_257 cyX5_all lm_0 rfl (by decide) ⟨by decide, by decide⟩ (by simp) rfl rfl (s_X5_all (by decide) (by decide) (by omega) (by omega)) (fun σ' hq => ?_)
                  subst hq
                  refine Ev.goto (tgt := 362) dX5_sends_260 rfl ?_
                  refine t_sends.mono (fun _ σ' h => ?_)
                  rw [h]
                  unfold m_obey
                  repeat (first | rw [if_pos (by omega)] | rw [if_neg (by omega)])
              · skip
                refine Ev.aload_n dX5_sends_236 rfl ?_
                refine Ev.bipush dX5_sends_237 ⟨by decide, by decide⟩ (by decide) ?_
                refine Ev.iload_n dX5_sends_239 rfl ?_
                refine Ev.isub dX5_sends_240 (by unfold ev_in; omega) ?_
                refine Ev.puti (6) dX5_sends_241 fl_X5_54 ft_5_6 lm_0 (by decide) rfl rfl ?_
                refine Ev.goto (tgt := 362) dX5_sends_244 rfl ?_
                refine t_sends.mono (fun _ σ' h => ?_)
                rw [h]
                unfold m_obey
                repeat (first | rw [if_pos (by omega)] | rw [if_neg (by omega)])
          · skip
            refine Ev.aload_n dX5_sends_213 rfl ?_
            refine Ev.bipush dX5_sends_214 ⟨by decide, by decide⟩ (by decide) ?_
            refine Ev.bipush dX5_sends_216 ⟨by decide, by decide⟩ (by decide) ?_
            refine Ev.Vv2 (I' := jX5_all) ml_X5_142 dX5_sends_218 cyX5_all lm_0 rfl (by decide) ⟨by decide, by decide⟩ (by simp) rfl rfl (s_X5_all (by decide) (by decide) (by omega) (by omega)) (fun σ' hq => ?_)
            subst hq
            refine Ev.goto (tgt := 362) dX5_sends_221 rfl ?_
            refine t_sends.mono (fun _ σ' h => ?_)
            rw [h]
            unfold m_obey
            repeat (first | rw [if_pos (by omega)] | rw [if_neg (by omega)])
        · skip
          refine Ev.aload_n dX5_sends_197 rfl ?_
          refine Ev.bipush dX5_sends_198 ⟨by decide, by decide⟩ (by decide) ?_
          refine Ev.iconst dX5_sends_200 ⟨by decide, by decide⟩ ?_
          refine Ev.Vv2 (I' := jX5_all) ml_X5_142 dX5_sends_201 cyX5_all lm_0 rfl (by decide) ⟨by decide, by decide⟩ (by simp) rfl rfl (s_X5_all (by decide) (by decide) (by omega) (by omega)) (fun σ' hq => ?_)
          subst hq
          refine Ev.goto (tgt := 362) dX5_sends_204 rfl ?_
          refine t_sends.mono (fun _ σ' h => ?_)
          rw [h]
          unfold m_obey
          repeat (first | rw [if_pos (by omega)] | rw [if_neg (by omega)])
      · skip
        refine Ev.aload_n dX5_sends_184 rfl ?_
        refine Ev.Vv0 (I' := jX5_passes) ml_X5_139 dX5_sends_185 cyX5_passes lm_0 rfl (by decide) ⟨by decide, by decide⟩ (by simp) rfl rfl (s_X5_passes (by omega) (by omega) (by unfold ev_in; omega)) (fun σ' hq => ?_)
        subst hq
        refine Ev.goto (tgt := 362) dX5_sends_188 rfl ?_
        refine t_sends.mono (fun _ σ' h => ?_)
        rw [h]
        unfold m_obey
        repeat (first | rw [if_pos (by omega)] | rw [if_neg (by omega)])
    · skip
      refine Ev.iconst dX5_sends_120 ⟨by decide, by decide⟩ ?_
      refine Ev.istore5 dX5_sends_121 ?_
      refine (t_sends_tl hM hb (ρ 2).toNat 0 ρ (by omega) rfl).mono (fun _ σ' h => ?_)
      rw [h]
      unfold m_obey
      repeat (first | rw [if_pos (by omega)] | rw [if_neg (by omega)])
theorem t_names {b c : Int} {x5 : Option ev_V} {σ : ev_M} (hM : MI b σ) (hb : b ≤ 900000000) (hc0 : 0 ≤ c) (hc1 : c ≤ 127) : ∀ (j k : Nat) (ρ : ev_M), (k : Int) + j = σ 2 → ρ = it (m_all 17 0) σ k → Ev jX5_sends layM 32 [some (rv 0), some (iv c), some (iv (tlr 1 σ k)), some (iv (tlr 2 σ k)), some (iv (k : Int)), x5] [] ρ (fun _ σ' => σ' = m_end c (m_lis (it (m_all 17 0) σ (σ 2).toNat)) (m_obey c (tlr 1 σ (σ 2).toNat) (tlr 2 σ (σ 2).toNat) (it (m_all 17 0) σ (σ 2).toNat))) := by
  have h2 := hM.s2
  intro j
  induction j with
  | zero =>
    intro k ρ hk hρ
    have e2 : ρ 2 = σ 2 := by rw [hρ]; exact it_all_o (by omega) (by decide) (by decide) (Or.inl (by decide))
    have hMk := hM.itall17 k (by omega)
    rw [← hρ] at hMk
    refine Ev.iload dX5_sends_32 rfl ?_
    refine Ev.aload_n dX5_sends_34 rfl ?_
    refine Ev.geti (2) dX5_sends_35 fl_X5_44 lm_0 (by decide) rfl rfl ?_
    refine Ev.icmp_ge (tgt := 102) dX5_sends_38 rfl (fun c38 => ?_) (fun c38 => ?_)
    · skip
      rw [show (σ 2).toNat = k by omega, ← hρ]
      exact t_sends_obey hMk hb hc0 hc1
    · skip
      exact absurd c38 (by omega)
  | succ j ih =>
    intro k ρ hk hρ
    have e2 : ρ 2 = σ 2 := by rw [hρ]; exact it_all_o (by omega) (by decide) (by decide) (Or.inl (by decide))
    have e17 : ρ (300 + (18 * (k : Int) + 17)) = σ (300 + (18 * (k : Int) + 17)) := by rw [hρ]; exact it_at' k (fun i σ hi => ev_up_ne (by omega))
    refine Ev.iload dX5_sends_32 rfl ?_
    refine Ev.aload_n dX5_sends_34 rfl ?_
    refine Ev.geti (2) dX5_sends_35 fl_X5_44 lm_0 (by decide) rfl rfl ?_
    refine Ev.icmp_ge (tgt := 102) dX5_sends_38 rfl (fun c38 => ?_) (fun c38 => ?_)
    · skip
      exact absurd c38 (by omega)
    · skip
      refine Ev.iload_n dX5_sends_41 rfl ?_
      refine Ev.aload_n dX5_sends_42 rfl ?_
      refine Ev.iload dX5_sends_43 rfl ?_
      refine Ev.bipush dX5_sends_45 ⟨by decide, by decide⟩ (by decide) ?_
      refine Ev.Vi2 (I' := jX5_of) ml_X5_100 dX5_sends_47 cyX5_of lm_0 rfl (by decide) ⟨by decide, by decide⟩ (by simp) rfl rfl (s_X5_of (by omega) (by omega) (by decide) (by decide)) (fun r σ' hr47 hq => ?_)
      obtain ⟨rfl, hq⟩ := hq
      replace hq := hq.symm
      subst hq
      refine Ev.iconst dX5_sends_50 ⟨by decide, by decide⟩ ?_
      refine Ev.icmp_ne (tgt := 61) dX5_sends_51 rfl (fun c51 => ?_) (fun c51 => ?_)
      · skip
        refine Ev.iconst dX5_sends_61 ⟨by decide, by decide⟩ ?_
        refine Ev.ior dX5_sends_62 ?_
        refine Ev.istore2 rfl dX5_sends_63 ?_
        refine Ev.iload_n dX5_sends_64 rfl ?_
        refine Ev.aload_n dX5_sends_65 rfl ?_
        refine Ev.iload dX5_sends_66 rfl ?_
        refine Ev.bipush dX5_sends_68 ⟨by decide, by decide⟩ (by decide) ?_
        refine Ev.Vi2 (I' := jX5_of) ml_X5_100 dX5_sends_70 cyX5_of lm_0 rfl (by decide) ⟨by decide, by decide⟩ (by simp) rfl rfl (s_X5_of (by omega) (by omega) (by decide) (by decide)) (fun r σ' hr70 hq => ?_)
        obtain ⟨rfl, hq⟩ := hq
        replace hq := hq.symm
        subst hq
        refine Ev.iconst dX5_sends_73 ⟨by decide, by decide⟩ ?_
        refine Ev.icmp_ne (tgt := 84) dX5_sends_74 rfl (fun c74 => ?_) (fun c74 => ?_)
        · skip
          refine Ev.iconst dX5_sends_84 ⟨by decide, by decide⟩ ?_
          refine Ev.ior dX5_sends_85 ?_
          refine Ev.istore3 rfl dX5_sends_86 ?_
          refine Ev.aload_n dX5_sends_87 rfl ?_
          refine Ev.iload dX5_sends_88 rfl ?_
          refine Ev.bipush dX5_sends_90 ⟨by decide, by decide⟩ (by decide) ?_
          refine Ev.iconst dX5_sends_92 ⟨by decide, by decide⟩ ?_
          refine Ev.Vv3 (I' := jX5_puts) ml_X5_47 dX5_sends_93 cyX5_puts lm_0 rfl (by decide) ⟨by decide, by decide⟩ (by simp) rfl rfl (s_X5_puts (by omega) (by omega) (by decide) (by decide)) (fun σ' hq => ?_)
          subst hq
          refine Ev.iinc4 dX5_sends_96 (by unfold ev_in; omega) ?_
          refine Ev.goto (tgt := 32) dX5_sends_99 rfl ?_
          have := ih (k + 1) _ (by omega) (by rw [show it (m_all 17 0) σ (k + 1) = m_all 17 0 (k : Int) (it (m_all 17 0) σ k) from rfl, ← hρ])
          rw [show tlr 1 σ (k + 1) = ev_or (tlr 1 σ k) (if σ (300 + (18 * (k : Int) + 17)) = 1 then ev_shl 1 (k : Int) else 0) from rfl, show tlr 2 σ (k + 1) = ev_or (tlr 2 σ k) (if σ (300 + (18 * (k : Int) + 17)) = 2 then ev_shl 1 (k : Int) else 0) from rfl] at this
          repeat (first | rw [if_pos (by omega)] at this | rw [if_neg (by omega)] at this)
          first | exact this | (exfalso; omega)
        · skip
          refine Ev.iconst dX5_sends_77 ⟨by decide, by decide⟩ ?_
          refine Ev.iload dX5_sends_78 rfl ?_
          refine Ev.ishl dX5_sends_80 ?_
          refine Ev.goto (tgt := 85) dX5_sends_81 rfl ?_
          refine Ev.ior dX5_sends_85 ?_
          refine Ev.istore3 rfl dX5_sends_86 ?_
          refine Ev.aload_n dX5_sends_87 rfl ?_
          refine Ev.iload dX5_sends_88 rfl ?_
          refine Ev.bipush dX5_sends_90 ⟨by decide, by decide⟩ (by decide) ?_
          refine Ev.iconst dX5_sends_92 ⟨by decide, by decide⟩ ?_
          refine Ev.Vv3 (I' := jX5_puts) ml_X5_47 dX5_sends_93 cyX5_puts lm_0 rfl (by decide) ⟨by decide, by decide⟩ (by simp) rfl rfl (s_X5_puts (by omega) (by omega) (by decide) (by decide)) (fun σ' hq => ?_)
          subst hq
          refine Ev.iinc4 dX5_sends_96 (by unfold ev_in; omega) ?_
          refine Ev.goto (tgt := 32) dX5_sends_99 rfl ?_
          have := ih (k + 1) _ (by omega) (by rw [show it (m_all 17 0) σ (k + 1) = m_all 17 0 (k : Int) (it (m_all 17 0) σ k) from rfl, ← hρ])
          rw [show tlr 1 σ (k + 1) = ev_or (tlr 1 σ k) (if σ (300 + (18 * (k : Int) + 17)) = 1 then ev_shl 1 (k : Int) else 0) from rfl, show tlr 2 σ (k + 1) = ev_or (tlr 2 σ k) (if σ (300 + (18 * (k : Int) + 17)) = 2 then ev_shl 1 (k : Int) else 0) from rfl] at this
          repeat (first | rw [if_pos (by omega)] at this | rw [if_neg (by omega)] at this)
          first | exact this | (exfalso; omega)
      · skip
        refine Ev.iconst dX5_sends_54 ⟨by decide, by decide⟩ ?_
        refine Ev.iload dX5_sends_55 rfl ?_
        refine Ev.ishl dX5_sends_57 ?_
        refine Ev.goto (tgt := 62) dX5_sends_58 rfl ?_
        refine Ev.ior dX5_sends_62 ?_
        refine Ev.istore2 rfl dX5_sends_63 ?_
        refine Ev.iload_n dX5_sends_64 rfl ?_
        refine Ev.aload_n dX5_sends_65 rfl ?_
        refine Ev.iload dX5_sends_66 rfl ?_
        refine Ev.bipush dX5_sends_68 ⟨by decide, by decide⟩ (by decide) ?_
        refine Ev.Vi2 (I' := jX5_of) ml_X5_100 dX5_sends_70 cyX5_of lm_0 rfl (by decide) ⟨by decide, by decide⟩ (by simp) rfl rfl (s_X5_of (by omega) (by omega) (by decide) (by decide)) (fun r σ' hr70 hq => ?_)
        obtain ⟨rfl, hq⟩ := hq
        replace hq := hq.symm
        subst hq
        refine Ev.iconst dX5_sends_73 ⟨by decide, by decide⟩ ?_
        refine Ev.icmp_ne (tgt := 84) dX5_sends_74 rfl (fun c74 => ?_) (fun c74 => ?_)
        · skip
          refine Ev.iconst dX5_sends_84 ⟨by decide, by decide⟩ ?_
          refine Ev.ior dX5_sends_85 ?_
          refine Ev.istore3 rfl dX5_sends_86 ?_
          refine Ev.aload_n dX5_sends_87 rfl ?_
          refine Ev.iload dX5_sends_88 rfl ?_
          refine Ev.bipush dX5_sends_90 ⟨by decide, by decide⟩ (by decide) ?_
          refine Ev.iconst dX5_sends_92 ⟨by decide, by decide⟩ ?_
          refine Ev.Vv3 (I' := jX5_puts) ml_X5_47 dX5_sends_93 cyX5_puts lm_0 rfl (by decide) ⟨by decide, by decide⟩ (by simp) rfl rfl (s_X5_puts (by omega) (by omega) (by decide) (by decide)) (fun σ' hq => ?_)
          subst hq
          refine Ev.iinc4 dX5_sends_96 (by unfold ev_in; omega) ?_
          refine Ev.goto (tgt := 32) dX5_sends_99 rfl ?_
          have := ih (k + 1) _ (by omega) (by rw [show it (m_all 17 0) σ (k + 1) = m_all 17 0 (k : Int) (it (m_all 17 0) σ k) from rfl, ← hρ])
          rw [show tlr 1 σ (k + 1) = ev_or (tlr 1 σ k) (if σ (300 + (18 * (k : Int) + 17)) = 1 then ev_shl 1 (k : Int) else 0) from rfl, show tlr 2 σ (k + 1) = ev_or (tlr 2 σ k) (if σ (300 + (18 * (k : Int) + 17)) = 2 then ev_shl 1 (k : Int) else 0) from rfl] at this
          repeat (first | rw [if_pos (by omega)] at this | rw [if_neg (by omega)] at this)
          first | exact this | (exfalso; omega)
        · skip
          refine Ev.iconst dX5_sends_77 ⟨by decide, by decide⟩ ?_
          refine Ev.iload dX5_sends_78 rfl ?_
          refine Ev.ishl dX5_sends_80 ?_
          refine Ev.goto (tgt := 85) dX5_sends_81 rfl ?_
          refine Ev.ior dX5_sends_85 ?_
          refine Ev.istore3 rfl dX5_sends_86 ?_
          refine Ev.aload_n dX5_sends_87 rfl ?_
          refine Ev.iload dX5_sends_88 rfl ?_
          refine Ev.bipush dX5_sends_90 ⟨by decide, by decide⟩ (by decide) ?_
          refine Ev.iconst dX5_sends_92 ⟨by decide, by decide⟩ ?_
          refine Ev.Vv3 (I' := jX5_puts) ml_X5_47 dX5_sends_93 cyX5_puts lm_0 rfl (by decide) ⟨by decide, by decide⟩ (by simp) rfl rfl (s_X5_puts (by omega) (by omega) (by decide) (by decide)) (fun σ' hq => ?_)
          subst hq
          refine Ev.iinc4 dX5_sends_96 (by unfold ev_in; omega) ?_
          refine Ev.goto (tgt := 32) dX5_sends_99 rfl ?_
          have := ih (k + 1) _ (by omega) (by rw [show it (m_all 17 0) σ (k + 1) = m_all 17 0 (k : Int) (it (m_all 17 0) σ k) from rfl, ← hρ])
          rw [show tlr 1 σ (k + 1) = ev_or (tlr 1 σ k) (if σ (300 + (18 * (k : Int) + 17)) = 1 then ev_shl 1 (k : Int) else 0) from rfl, show tlr 2 σ (k + 1) = ev_or (tlr 2 σ k) (if σ (300 + (18 * (k : Int) + 17)) = 2 then ev_shl 1 (k : Int) else 0) from rfl] at this
          repeat (first | rw [if_pos (by omega)] at this | rw [if_neg (by omega)] at this)
          first | exact this | (exfalso; omega)
theorem s_X5_sends {b c : Int} {σ : ev_M} (hM : MI b σ) (hb : b ≤ 800000000) (hc0 : 0 ≤ c) (hc1 : c ≤ 127) : Ev jX5_sends layM 0 [some (rv 0), some (iv c), none, none, none, none] [] σ (fun _ σ' => σ' = m_sends c σ) := by
  have hc : ev_in c := by unfold ev_in; omega
  have hMl := hM.logs (c := c) (by omega) hc
  have hMp := hM.pre (c := c) (by omega) hc
  have hMt := hM.tkd (c := c) (by omega) hc
  have hsl := m_slow_rng (set := 63) hMp
  have l570 := hMl.sum (n := 570) (by decide) (by decide)
  have p2 := hMp.s2
  have h11 := hM.s11
  have t2 := hMt.s2
  refine Ev.aload_n dX5_sends_0 rfl ?_
  refine Ev.iload_n dX5_sends_1 rfl ?_
  refine Ev.Vv1 (I' := jX5_logs) ml_X5_126 dX5_sends_2 cyX5_logs lm_0 rfl (by decide) ⟨by decide, by decide⟩ (by simp) rfl rfl (s_X5_logs (by omega) (by omega)) (fun σ' hq => ?_)
  subst hq
  refine Ev.aload_n dX5_sends_5 rfl ?_
  refine Ev.getr (570) dX5_sends_6 fl_X5_19 lm_0 (by decide) rfl rfl ?_
  refine Ev.iconst dX5_sends_9 ⟨by decide, by decide⟩ ?_
  refine Ev.dup2 dX5_sends_10 ?_
  refine Ev.ialdn (570) dX5_sends_11 lm_570 (Or.inl rfl) (by decide) (by decide) rfl ?_
  refine Ev.iconst dX5_sends_12 ⟨by decide, by decide⟩ ?_
  refine Ev.iadd dX5_sends_13 (by unfold ev_in; omega) ?_
  refine Ev.iastn (570) dX5_sends_14 lm_570 (by decide) (by decide) rfl ?_
  rw [show ev_up (m_logs c σ) 570 (m_logs c σ 570 + 1) = m_pre c σ from rfl]
  refine Ev.aload_n dX5_sends_15 rfl ?_
  refine Ev.aload_n dX5_sends_16 rfl ?_
  refine Ev.bipush dX5_sends_17 ⟨by decide, by decide⟩ (by decide) ?_
  refine Ev.Vi1 (I' := jX5_slowest) ml_X5_129 dX5_sends_19 cyX5_slowest lm_0 rfl (by decide) ⟨by decide, by decide⟩ (by simp) rfl rfl (s_X5_slowest (by omega) (by omega)) (fun r σ' hr19 hq => ?_)
  obtain ⟨rfl, hq⟩ := hq
  replace hq := hq.symm
  subst hq
  refine Ev.Vv1 (I' := jX5_ticks) ml_X5_107 dX5_sends_22 cyX5_ticks lm_0 rfl (by decide) ⟨by decide, by decide⟩ (by simp) rfl rfl (s_X5_ticks (by omega) (by omega) hMp (by omega)) (fun σ' hq => ?_)
  subst hq
  rw [show m_ticks (m_pre c σ) (m_slow 63 (m_pre c σ)).toNat = m_tkd c σ from rfl]
  refine Ev.iconst dX5_sends_25 ⟨by decide, by decide⟩ ?_
  refine Ev.istore2 rfl dX5_sends_26 ?_
  refine Ev.iconst dX5_sends_27 ⟨by decide, by decide⟩ ?_
  refine Ev.istore3 rfl dX5_sends_28 ?_
  refine Ev.iconst dX5_sends_29 ⟨by decide, by decide⟩ ?_
  refine Ev.istore4 dX5_sends_30 ?_
  exact t_names hMt (by omega) hc0 hc1 (m_tkd c σ 2).toNat 0 _ (by omega) rfl
theorem MI.sends {b c : Int} {τ : ev_M} (h : MI b τ) (hb : b ≤ 800000000) (hc0 : 0 ≤ c) (hc1 : c ≤ 127) (hl : ∀ τ : ev_M, ∀ b, MI b τ → 0 ≤ m_lis τ ∧ m_lis τ ≤ 63) : MI (b + 76) (m_sends c τ) := by
  have hMt := h.tkd (c := c) (by omega) (by unfold ev_in; omega)
  have hn := hMt.nat2
  have hN := hMt.itall17 _ hn
  have h1 := hN.obey (tl := tlr 1 (m_tkd c τ) (m_tkd c τ 2).toNat) (tt := tlr 2 (m_tkd c τ) (m_tkd c τ 2).toNat) hc0 hc1
  have h2 := hl _ _ hN
  exact ((h1.t9 (by split <;> omega) (by split <;> omega)).t8 (by omega) (by omega)).mono (by omega)
