/-! the reference: items, the text read, laid -/
theorem s_X5_highest' {w : Int} {σ : ev_M} : Ev jX5_highest layM 0 [some (iv w)] [] σ (fun r σ' => r = hst w ∧ σ' = σ) := s_X5_highest
def APs (σ : ev_M) (p d : Int) : Prop := σ (640 + (5 * d + 1)) ≠ vl (Lm σ) p 1 ∨ (σ (640 + (5 * d + 2)) ≠ vl (Lm σ) p 2 ∧ σ (640 + (5 * d + 2)) < 31 ∧ vl (Lm σ) p 2 < 31)
def RI (σ : ev_M) (p b : Int) (k : Nat) (ρ : ev_M) : Prop := RF σ ρ ∧ MI b ρ ∧ ρ 15 = σ 15 ∧ ρ 18 = en (Lm σ) p k ∧ (∀ j : Nat, j < k → nok (Lm σ) p j) ∧ (∀ j : Nat, j < k → ρ (640 + (5 * σ 15 + (j : Int))) = vl (Lm σ) p j) ∧ ∀ m, 640 ≤ m → m < 640 + 5 * σ 15 → ρ m = σ m
def RQ (σ : ev_M) (p b r : Int) (σ' : ev_M) : Prop := RF σ σ' ∧ MI b σ' ∧ ((r = 1 ∧ σ 15 ≠ 6 ∧ itok (Lm σ) p ∧ (∀ d : Int, 0 ≤ d → d < σ 15 → APs σ p d) ∧ σ' 15 = σ 15 + 1 ∧ σ' 18 = en (Lm σ) p 5 ∧ (∀ j : Nat, j < 5 → σ' (640 + (5 * σ 15 + (j : Int))) = vl (Lm σ) p j) ∧ ∀ m, 640 ≤ m → m < 640 + 5 * σ 15 → σ' m = σ m) ∨ (r = 0 ∧ (σ 15 = 6 ∨ ¬ itok (Lm σ) p ∨ ∃ d : Int, 0 ≤ d ∧ d < σ 15 ∧ ¬ APs σ p d)))
theorem t_ri_end {σ ρ : ev_M} {p b wl : Int} {x4 x5 x2 : Option ev_V} (hM : MI b σ) (h6 : σ 15 ≠ 6) (hd : Lm σ p = 100) (hR : RI σ p b 5 ρ) (hw : (wl = 1 ∧ Lm σ (en (Lm σ) p 5) = 59 ∧ ∀ d : Int, 0 ≤ d → d < σ 15 → APs σ p d) ∨ (wl = 0 ∧ ¬ (Lm σ (en (Lm σ) p 5) = 59 ∧ ∀ d : Int, 0 ≤ d → d < σ 15 → APs σ p d))) : Ev jX5_readsItem layM 236 [some (rv 0), some (iv p), x2, some (iv wl), x4, x5] [] ρ (fun r σ' => RQ σ p b r σ') := by
  obtain ⟨r1, r2, r3, r4, r5, r6, r7⟩ := hR
  have h15 := hM.s15
  refine Ev.aload_n dX5_readsItem_236 rfl ?_
  refine Ev.dup dX5_readsItem_237 ?_
  refine Ev.geti (15) dX5_readsItem_238 fl_X5_37 lm_0 (by decide) rfl rfl ?_
  refine Ev.iconst dX5_readsItem_241 ⟨by decide, by decide⟩ ?_
  refine Ev.iadd dX5_readsItem_242 (by unfold ev_in; omega) ?_
  refine Ev.puti (15) dX5_readsItem_243 fl_X5_37 ft_5_15 lm_0 (by decide) rfl rfl ?_
  refine Ev.iload_n dX5_readsItem_246 rfl ?_
  refine Ev.bool rfl dX5_readsItem_247 (by omega) ?_
  refine ⟨r1.up (Or.inl rfl), r2.t15 (by omega) (by omega), ?_⟩
  rcases hw with ⟨rfl, hw1, hw2⟩ | ⟨rfl, hw1⟩
  · left
    refine ⟨rfl, h6, ⟨hd, r5, hw1⟩, hw2, ?_, ?_, ?_, ?_⟩
    · rw [ev_up_eq, r3]
    · rw [ev_up_ne (by decide), r4]
    · intro j hj
      rw [ev_up_ne (by omega), r6 j hj]
    · intro m m0 m1
      rw [ev_up_ne (by omega), r7 m m0 m1]
  · right
    refine ⟨rfl, ?_⟩
    by_cases hi : itok (Lm σ) p
    · right; right
      by_cases hx : ∃ d : Int, 0 ≤ d ∧ d < σ 15 ∧ ¬ APs σ p d
      · exact hx
      · exact absurd ⟨hi.2.2, fun d d0 d1 => Classical.byContradiction (fun z => hx ⟨d, d0, d1, z⟩)⟩ hw1
    · right; left; exact hi
theorem t_ri_ap {σ ρ : ev_M} {p b : Int} (hM : MI b σ) (h6 : σ 15 ≠ 6) (hd : Lm σ p = 100) (hR : RI σ p b 5 ρ) : ∀ (j k : Nat) (wl : Int) (x5 : Option ev_V), (k : Int) + j = σ 15 → ((wl = 1 ∧ Lm σ (en (Lm σ) p 5) = 59 ∧ ∀ d : Int, 0 ≤ d → d < (k : Int) → APs σ p d) ∨ (wl = 0 ∧ ¬ (Lm σ (en (Lm σ) p 5) = 59 ∧ ∀ d : Int, 0 ≤ d → d < (k : Int) → APs σ p d))) → Ev jX5_readsItem layM 126 [some (rv 0), some (iv p), some (iv (5 * σ 15)), some (iv wl), some (iv (k : Int)), x5] [] ρ (fun r σ' => RQ σ p b r σ') := by
  have h15 := hM.s15
  have hR' := hR
  obtain ⟨r1, r2, r3, r4, r5, r6, r7⟩ := hR'
  have v1 : ρ (640 + (5 * σ 15 + 1)) = vl (Lm σ) p 1 := r6 1 (by decide)
  have v2 : ρ (640 + (5 * σ 15 + 2)) = vl (Lm σ) p 2 := r6 2 (by decide)
  intro j
  induction j with
  | zero =>
    intro k wl x5 hk hw
    refine Ev.iload dX5_readsItem_126 rfl ?_
    refine Ev.aload_n dX5_readsItem_128 rfl ?_
    refine Ev.geti (15) dX5_readsItem_129 fl_X5_37 lm_0 (by decide) rfl rfl ?_
    refine Ev.icmp_ge (tgt := 236) dX5_readsItem_132 rfl (fun c132 => ?_) (fun c132 => ?_)
    · skip
      exact t_ri_end hM h6 hd hR (by rw [show σ 15 = (k : Int) by omega]; exact hw)
    · skip
      exact absurd c132 (by omega)
  | succ j ih =>
    intro k wl x5 hk hw
    have u1 : ρ (640 + (5 * (k : Int) + 1)) = σ (640 + (5 * (k : Int) + 1)) := r7 _ (by omega) (by omega)
    have u2 : ρ (640 + (5 * (k : Int) + 2)) = σ (640 + (5 * (k : Int) + 2)) := r7 _ (by omega) (by omega)
    have nx : ∀ (wl2 : Int) (x : Option ev_V), ((wl2 = 1 ∧ wl = 1 ∧ APs σ p (k : Int)) ∨ (wl2 = 0 ∧ (wl = 0 ∨ ¬ APs σ p (k : Int)))) → Ev jX5_readsItem layM 126 [some (rv 0), some (iv p), some (iv (5 * σ 15)), some (iv wl2), some (iv ((k : Int) + 1)), x] [] ρ (fun r σ' => RQ σ p b r σ') := by
      intro wl2 x h2
      refine ih (k + 1) wl2 x (by omega) ?_
      rcases h2 with ⟨a1, a2, a3⟩ | ⟨a1, a2⟩
      · left
        rcases hw with ⟨-, w2, w3⟩ | ⟨w1, -⟩
        · refine ⟨a1, w2, fun d d0 d1 => ?_⟩
          by_cases hdk : d = (k : Int)
          · rw [hdk]; exact a3
          · exact w3 d d0 (by omega)
        · omega
      · right
        refine ⟨a1, ?_⟩
        intro z
        rcases a2 with a2 | a2
        · rcases hw with ⟨w1, -⟩ | ⟨-, w2⟩
          · omega
          · exact w2 ⟨z.1, fun d d0 d1 => z.2 d d0 (by omega)⟩
        · exact a2 (z.2 (k : Int) (by omega) (by omega))
    refine Ev.iload dX5_readsItem_126 rfl ?_
    refine Ev.aload_n dX5_readsItem_128 rfl ?_
    refine Ev.geti (15) dX5_readsItem_129 fl_X5_37 lm_0 (by decide) rfl rfl ?_
    refine Ev.icmp_ge (tgt := 236) dX5_readsItem_132 rfl (fun c132 => ?_) (fun c132 => ?_)
    · skip
      exact absurd c132 (by omega)
    · skip
      refine Ev.aload_n dX5_readsItem_135 rfl ?_
      refine Ev.getr (640) dX5_readsItem_136 fl_X5_31 lm_0 (by decide) rfl rfl ?_
      refine Ev.iconst dX5_readsItem_139 ⟨by decide, by decide⟩ ?_
      refine Ev.iload dX5_readsItem_140 rfl ?_
      refine Ev.imul dX5_readsItem_142 (by unfold ev_in; omega) ?_
      refine Ev.iconst dX5_readsItem_143 ⟨by decide, by decide⟩ ?_
      refine Ev.iadd dX5_readsItem_144 (by unfold ev_in; omega) ?_
      refine Ev.iald dX5_readsItem_145 lm_640 (Or.inl rfl) (by omega) (by omega) ?_
      refine Ev.aload_n dX5_readsItem_146 rfl ?_
      refine Ev.getr (640) dX5_readsItem_147 fl_X5_31 lm_0 (by decide) rfl rfl ?_
      refine Ev.iload_n dX5_readsItem_150 rfl ?_
      refine Ev.iconst dX5_readsItem_151 ⟨by decide, by decide⟩ ?_
      refine Ev.iadd dX5_readsItem_152 (by unfold ev_in; omega) ?_
      refine Ev.iald dX5_readsItem_153 lm_640 (Or.inl rfl) (by omega) (by omega) ?_
      refine Ev.icmp_eq (tgt := 190) dX5_readsItem_154 rfl (fun c154 => ?_) (fun c154 => ?_)
      · skip
        refine Ev.iconst dX5_readsItem_190 ⟨by decide, by decide⟩ ?_
        refine Ev.istore5 dX5_readsItem_191 ?_
        refine Ev.iload_n dX5_readsItem_193 rfl ?_
        refine Ev.if_eq (tgt := 228) dX5_readsItem_194 rfl (fun c194 => ?_) (fun c194 => ?_)
        · skip
          refine Ev.iconst dX5_readsItem_228 ⟨by decide, by decide⟩ ?_
          refine Ev.istore3 rfl dX5_readsItem_229 ?_
          refine Ev.iinc4 dX5_readsItem_230 (by unfold ev_in; omega) ?_
          refine Ev.goto (tgt := 126) dX5_readsItem_233 rfl ?_
          refine nx _ _ ?_
          unfold APs
          rcases hw with ⟨w1, -⟩ | ⟨w1, -⟩ <;> omega
        · skip
          refine Ev.aload_n dX5_readsItem_197 rfl ?_
          refine Ev.getr (640) dX5_readsItem_198 fl_X5_31 lm_0 (by decide) rfl rfl ?_
          refine Ev.iconst dX5_readsItem_201 ⟨by decide, by decide⟩ ?_
          refine Ev.iload dX5_readsItem_202 rfl ?_
          refine Ev.imul dX5_readsItem_204 (by unfold ev_in; omega) ?_
          refine Ev.iconst dX5_readsItem_205 ⟨by decide, by decide⟩ ?_
          refine Ev.iadd dX5_readsItem_206 (by unfold ev_in; omega) ?_
          refine Ev.iald dX5_readsItem_207 lm_640 (Or.inl rfl) (by omega) (by omega) ?_
          refine Ev.aload_n dX5_readsItem_208 rfl ?_
          refine Ev.getr (640) dX5_readsItem_209 fl_X5_31 lm_0 (by decide) rfl rfl ?_
          refine Ev.iload_n dX5_readsItem_212 rfl ?_
          refine Ev.iconst dX5_readsItem_213 ⟨by decide, by decide⟩ ?_
          refine Ev.iadd dX5_readsItem_214 (by unfold ev_in; omega) ?_
          refine Ev.iald dX5_readsItem_215 lm_640 (Or.inl rfl) (by omega) (by omega) ?_
          refine Ev.icmp_ne (tgt := 224) dX5_readsItem_216 rfl (fun c216 => ?_) (fun c216 => ?_)
          · skip
            refine Ev.iconst dX5_readsItem_224 ⟨by decide, by decide⟩ ?_
            refine Ev.goto (tgt := 229) dX5_readsItem_225 rfl ?_
            refine Ev.istore3 rfl dX5_readsItem_229 ?_
            refine Ev.iinc4 dX5_readsItem_230 (by unfold ev_in; omega) ?_
            refine Ev.goto (tgt := 126) dX5_readsItem_233 rfl ?_
            refine nx _ _ ?_
            unfold APs
            rcases hw with ⟨w1, -⟩ | ⟨w1, -⟩ <;> omega
          · skip
            refine Ev.iload dX5_readsItem_219 rfl ?_
            refine Ev.if_eq (tgt := 228) dX5_readsItem_221 rfl (fun c221 => ?_) (fun c221 => ?_)
            · skip
              refine Ev.iconst dX5_readsItem_228 ⟨by decide, by decide⟩ ?_
              refine Ev.istore3 rfl dX5_readsItem_229 ?_
              refine Ev.iinc4 dX5_readsItem_230 (by unfold ev_in; omega) ?_
              refine Ev.goto (tgt := 126) dX5_readsItem_233 rfl ?_
              refine nx _ _ ?_
              unfold APs
              rcases hw with ⟨w1, -⟩ | ⟨w1, -⟩ <;> omega
            · skip
              refine Ev.iconst dX5_readsItem_224 ⟨by decide, by decide⟩ ?_
              refine Ev.goto (tgt := 229) dX5_readsItem_225 rfl ?_
              refine Ev.istore3 rfl dX5_readsItem_229 ?_
              refine Ev.iinc4 dX5_readsItem_230 (by unfold ev_in; omega) ?_
              refine Ev.goto (tgt := 126) dX5_readsItem_233 rfl ?_
              refine nx _ _ ?_
              unfold APs
              rcases hw with ⟨w1, -⟩ | ⟨w1, -⟩ <;> omega
      · skip
        refine Ev.aload_n dX5_readsItem_157 rfl ?_
        refine Ev.getr (640) dX5_readsItem_158 fl_X5_31 lm_0 (by decide) rfl rfl ?_
        refine Ev.iconst dX5_readsItem_161 ⟨by decide, by decide⟩ ?_
        refine Ev.iload dX5_readsItem_162 rfl ?_
        refine Ev.imul dX5_readsItem_164 (by unfold ev_in; omega) ?_
        refine Ev.iconst dX5_readsItem_165 ⟨by decide, by decide⟩ ?_
        refine Ev.iadd dX5_readsItem_166 (by unfold ev_in; omega) ?_
        refine Ev.iald dX5_readsItem_167 lm_640 (Or.inl rfl) (by omega) (by omega) ?_
        refine Ev.bipush dX5_readsItem_168 ⟨by decide, by decide⟩ (by decide) ?_
        refine Ev.icmp_ge (tgt := 190) dX5_readsItem_170 rfl (fun c170 => ?_) (fun c170 => ?_)
        · skip
          refine Ev.iconst dX5_readsItem_190 ⟨by decide, by decide⟩ ?_
          refine Ev.istore5 dX5_readsItem_191 ?_
          refine Ev.iload_n dX5_readsItem_193 rfl ?_
          refine Ev.if_eq (tgt := 228) dX5_readsItem_194 rfl (fun c194 => ?_) (fun c194 => ?_)
          · skip
            refine Ev.iconst dX5_readsItem_228 ⟨by decide, by decide⟩ ?_
            refine Ev.istore3 rfl dX5_readsItem_229 ?_
            refine Ev.iinc4 dX5_readsItem_230 (by unfold ev_in; omega) ?_
            refine Ev.goto (tgt := 126) dX5_readsItem_233 rfl ?_
            refine nx _ _ ?_
            unfold APs
            rcases hw with ⟨w1, -⟩ | ⟨w1, -⟩ <;> omega
          · skip
            refine Ev.aload_n dX5_readsItem_197 rfl ?_
            refine Ev.getr (640) dX5_readsItem_198 fl_X5_31 lm_0 (by decide) rfl rfl ?_
            refine Ev.iconst dX5_readsItem_201 ⟨by decide, by decide⟩ ?_
            refine Ev.iload dX5_readsItem_202 rfl ?_
            refine Ev.imul dX5_readsItem_204 (by unfold ev_in; omega) ?_
            refine Ev.iconst dX5_readsItem_205 ⟨by decide, by decide⟩ ?_
            refine Ev.iadd dX5_readsItem_206 (by unfold ev_in; omega) ?_
            refine Ev.iald dX5_readsItem_207 lm_640 (Or.inl rfl) (by omega) (by omega) ?_
            refine Ev.aload_n dX5_readsItem_208 rfl ?_
            refine Ev.getr (640) dX5_readsItem_209 fl_X5_31 lm_0 (by decide) rfl rfl ?_
            refine Ev.iload_n dX5_readsItem_212 rfl ?_
            refine Ev.iconst dX5_readsItem_213 ⟨by decide, by decide⟩ ?_
            refine Ev.iadd dX5_readsItem_214 (by unfold ev_in; omega) ?_
            refine Ev.iald dX5_readsItem_215 lm_640 (Or.inl rfl) (by omega) (by omega) ?_
            refine Ev.icmp_ne (tgt := 224) dX5_readsItem_216 rfl (fun c216 => ?_) (fun c216 => ?_)
            · skip
              refine Ev.iconst dX5_readsItem_224 ⟨by decide, by decide⟩ ?_
              refine Ev.goto (tgt := 229) dX5_readsItem_225 rfl ?_
              refine Ev.istore3 rfl dX5_readsItem_229 ?_
              refine Ev.iinc4 dX5_readsItem_230 (by unfold ev_in; omega) ?_
              refine Ev.goto (tgt := 126) dX5_readsItem_233 rfl ?_
              refine nx _ _ ?_
              unfold APs
              rcases hw with ⟨w1, -⟩ | ⟨w1, -⟩ <;> omega
            · skip
              refine Ev.iload dX5_readsItem_219 rfl ?_
              refine Ev.if_eq (tgt := 228) dX5_readsItem_221 rfl (fun c221 => ?_) (fun c221 => ?_)
              · skip
                refine Ev.iconst dX5_readsItem_228 ⟨by decide, by decide⟩ ?_
                refine Ev.istore3 rfl dX5_readsItem_229 ?_
                refine Ev.iinc4 dX5_readsItem_230 (by unfold ev_in; omega) ?_
                refine Ev.goto (tgt := 126) dX5_readsItem_233 rfl ?_
                refine nx _ _ ?_
                unfold APs
                rcases hw with ⟨w1, -⟩ | ⟨w1, -⟩ <;> omega
              · skip
                refine Ev.iconst dX5_readsItem_224 ⟨by decide, by decide⟩ ?_
                refine Ev.goto (tgt := 229) dX5_readsItem_225 rfl ?_
                refine Ev.istore3 rfl dX5_readsItem_229 ?_
                refine Ev.iinc4 dX5_readsItem_230 (by unfold ev_in; omega) ?_
                refine Ev.goto (tgt := 126) dX5_readsItem_233 rfl ?_
                refine nx _ _ ?_
                unfold APs
                rcases hw with ⟨w1, -⟩ | ⟨w1, -⟩ <;> omega
        · skip
          refine Ev.aload_n dX5_readsItem_173 rfl ?_
          refine Ev.getr (640) dX5_readsItem_174 fl_X5_31 lm_0 (by decide) rfl rfl ?_
          refine Ev.iload_n dX5_readsItem_177 rfl ?_
          refine Ev.iconst dX5_readsItem_178 ⟨by decide, by decide⟩ ?_
          refine Ev.iadd dX5_readsItem_179 (by unfold ev_in; omega) ?_
          refine Ev.iald dX5_readsItem_180 lm_640 (Or.inl rfl) (by omega) (by omega) ?_
          refine Ev.bipush dX5_readsItem_181 ⟨by decide, by decide⟩ (by decide) ?_
          refine Ev.icmp_ge (tgt := 190) dX5_readsItem_183 rfl (fun c183 => ?_) (fun c183 => ?_)
          · skip
            refine Ev.iconst dX5_readsItem_190 ⟨by decide, by decide⟩ ?_
            refine Ev.istore5 dX5_readsItem_191 ?_
            refine Ev.iload_n dX5_readsItem_193 rfl ?_
            refine Ev.if_eq (tgt := 228) dX5_readsItem_194 rfl (fun c194 => ?_) (fun c194 => ?_)
            · skip
              refine Ev.iconst dX5_readsItem_228 ⟨by decide, by decide⟩ ?_
              refine Ev.istore3 rfl dX5_readsItem_229 ?_
              refine Ev.iinc4 dX5_readsItem_230 (by unfold ev_in; omega) ?_
              refine Ev.goto (tgt := 126) dX5_readsItem_233 rfl ?_
              refine nx _ _ ?_
              unfold APs
              rcases hw with ⟨w1, -⟩ | ⟨w1, -⟩ <;> omega
            · skip
              refine Ev.aload_n dX5_readsItem_197 rfl ?_
              refine Ev.getr (640) dX5_readsItem_198 fl_X5_31 lm_0 (by decide) rfl rfl ?_
              refine Ev.iconst dX5_readsItem_201 ⟨by decide, by decide⟩ ?_
              refine Ev.iload dX5_readsItem_202 rfl ?_
              refine Ev.imul dX5_readsItem_204 (by unfold ev_in; omega) ?_
              refine Ev.iconst dX5_readsItem_205 ⟨by decide, by decide⟩ ?_
              refine Ev.iadd dX5_readsItem_206 (by unfold ev_in; omega) ?_
              refine Ev.iald dX5_readsItem_207 lm_640 (Or.inl rfl) (by omega) (by omega) ?_
              refine Ev.aload_n dX5_readsItem_208 rfl ?_
              refine Ev.getr (640) dX5_readsItem_209 fl_X5_31 lm_0 (by decide) rfl rfl ?_
              refine Ev.iload_n dX5_readsItem_212 rfl ?_
              refine Ev.iconst dX5_readsItem_213 ⟨by decide, by decide⟩ ?_
              refine Ev.iadd dX5_readsItem_214 (by unfold ev_in; omega) ?_
              refine Ev.iald dX5_readsItem_215 lm_640 (Or.inl rfl) (by omega) (by omega) ?_
              refine Ev.icmp_ne (tgt := 224) dX5_readsItem_216 rfl (fun c216 => ?_) (fun c216 => ?_)
              · skip
                refine Ev.iconst dX5_readsItem_224 ⟨by decide, by decide⟩ ?_
                refine Ev.goto (tgt := 229) dX5_readsItem_225 rfl ?_
                refine Ev.istore3 rfl dX5_readsItem_229 ?_
                refine Ev.iinc4 dX5_readsItem_230 (by unfold ev_in; omega) ?_
                refine Ev.goto (tgt := 126) dX5_readsItem_233 rfl ?_
                refine nx _ _ ?_
                unfold APs
                rcases hw with ⟨w1, -⟩ | ⟨w1, -⟩ <;> omega
              · skip
                refine Ev.iload dX5_readsItem_219 rfl ?_
                refine Ev.if_eq (tgt := 228) dX5_readsItem_221 rfl (fun c221 => ?_) (fun c221 => ?_)
                · skip
                  refine Ev.iconst dX5_readsItem_228 ⟨by decide, by decide⟩ ?_
                  refine Ev.istore3 rfl dX5_readsItem_229 ?_
                  refine Ev.iinc4 dX5_readsItem_230 (by unfold ev_in; omega) ?_
                  refine Ev.goto (tgt := 126) dX5_readsItem_233 rfl ?_
                  refine nx _ _ ?_
                  unfold APs
                  rcases hw with ⟨w1, -⟩ | ⟨w1, -⟩ <;> omega
                · skip
                  refine Ev.iconst dX5_readsItem_224 ⟨by decide, by decide⟩ ?_
                  refine Ev.goto (tgt := 229) dX5_readsItem_225 rfl ?_
                  refine Ev.istore3 rfl dX5_readsItem_229 ?_
                  refine Ev.iinc4 dX5_readsItem_230 (by unfold ev_in; omega) ?_
                  refine Ev.goto (tgt := 126) dX5_readsItem_233 rfl ?_
                  refine nx _ _ ?_
                  unfold APs
                  rcases hw with ⟨w1, -⟩ | ⟨w1, -⟩ <;> omega
          · skip
            refine Ev.iconst dX5_readsItem_186 ⟨by decide, by decide⟩ ?_
            refine Ev.goto (tgt := 191) dX5_readsItem_187 rfl ?_
            refine Ev.istore5 dX5_readsItem_191 ?_
            refine Ev.iload_n dX5_readsItem_193 rfl ?_
            refine Ev.if_eq (tgt := 228) dX5_readsItem_194 rfl (fun c194 => ?_) (fun c194 => ?_)
            · skip
              refine Ev.iconst dX5_readsItem_228 ⟨by decide, by decide⟩ ?_
              refine Ev.istore3 rfl dX5_readsItem_229 ?_
              refine Ev.iinc4 dX5_readsItem_230 (by unfold ev_in; omega) ?_
              refine Ev.goto (tgt := 126) dX5_readsItem_233 rfl ?_
              refine nx _ _ ?_
              unfold APs
              rcases hw with ⟨w1, -⟩ | ⟨w1, -⟩ <;> omega
            · skip
              refine Ev.aload_n dX5_readsItem_197 rfl ?_
              refine Ev.getr (640) dX5_readsItem_198 fl_X5_31 lm_0 (by decide) rfl rfl ?_
              refine Ev.iconst dX5_readsItem_201 ⟨by decide, by decide⟩ ?_
              refine Ev.iload dX5_readsItem_202 rfl ?_
              refine Ev.imul dX5_readsItem_204 (by unfold ev_in; omega) ?_
              refine Ev.iconst dX5_readsItem_205 ⟨by decide, by decide⟩ ?_
              refine Ev.iadd dX5_readsItem_206 (by unfold ev_in; omega) ?_
              refine Ev.iald dX5_readsItem_207 lm_640 (Or.inl rfl) (by omega) (by omega) ?_
              refine Ev.aload_n dX5_readsItem_208 rfl ?_
              refine Ev.getr (640) dX5_readsItem_209 fl_X5_31 lm_0 (by decide) rfl rfl ?_
              refine Ev.iload_n dX5_readsItem_212 rfl ?_
              refine Ev.iconst dX5_readsItem_213 ⟨by decide, by decide⟩ ?_
              refine Ev.iadd dX5_readsItem_214 (by unfold ev_in; omega) ?_
              refine Ev.iald dX5_readsItem_215 lm_640 (Or.inl rfl) (by omega) (by omega) ?_
              refine Ev.icmp_ne (tgt := 224) dX5_readsItem_216 rfl (fun c216 => ?_) (fun c216 => ?_)
              · skip
                refine Ev.iconst dX5_readsItem_224 ⟨by decide, by decide⟩ ?_
                refine Ev.goto (tgt := 229) dX5_readsItem_225 rfl ?_
                refine Ev.istore3 rfl dX5_readsItem_229 ?_
                refine Ev.iinc4 dX5_readsItem_230 (by unfold ev_in; omega) ?_
                refine Ev.goto (tgt := 126) dX5_readsItem_233 rfl ?_
                refine nx _ _ ?_
                unfold APs
                rcases hw with ⟨w1, -⟩ | ⟨w1, -⟩ <;> omega
              · skip
                refine Ev.iload dX5_readsItem_219 rfl ?_
                refine Ev.if_eq (tgt := 228) dX5_readsItem_221 rfl (fun c221 => ?_) (fun c221 => ?_)
                · skip
                  refine Ev.iconst dX5_readsItem_228 ⟨by decide, by decide⟩ ?_
                  refine Ev.istore3 rfl dX5_readsItem_229 ?_
                  refine Ev.iinc4 dX5_readsItem_230 (by unfold ev_in; omega) ?_
                  refine Ev.goto (tgt := 126) dX5_readsItem_233 rfl ?_
                  refine nx _ _ ?_
                  unfold APs
                  rcases hw with ⟨w1, -⟩ | ⟨w1, -⟩ <;> omega
                · skip
                  refine Ev.iconst dX5_readsItem_224 ⟨by decide, by decide⟩ ?_
                  refine Ev.goto (tgt := 229) dX5_readsItem_225 rfl ?_
                  refine Ev.istore3 rfl dX5_readsItem_229 ?_
                  refine Ev.iinc4 dX5_readsItem_230 (by unfold ev_in; omega) ?_
                  refine Ev.goto (tgt := 126) dX5_readsItem_233 rfl ?_
                  refine nx _ _ ?_
                  unfold APs
                  rcases hw with ⟨w1, -⟩ | ⟨w1, -⟩ <;> omega

