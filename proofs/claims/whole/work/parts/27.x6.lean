/-! the class: the text, all as at first -/
def Lx (σ : ev_M) (p : Int) : Int := if 0 ≤ p ∧ p < σ 22 then σ (200 + p) else 0
theorem XI.txt {b p : Int} {σ : ev_M} (h : XI b σ) : 0 ≤ Lx σ p ∧ Lx σ p ≤ 126 := by
  have := h.s22
  unfold Lx
  split
  · exact h.ltr (by omega)
  · decide
theorem s_X3_letterAt {b p : Int} {σ : ev_M} (hX : XI b σ) : Ev jX3_letterAt layX 0 [some (rv 20), some (iv p)] [] σ (fun r σ' => r = Lx σ p ∧ σ' = σ) := by
  have h22 := hX.s22
  have ht := hX.txt (p := p)
  have hl := ltr ht.1 ht.2
  refine Ev.iload_n dX3_letterAt_0 rfl ?_
  refine Ev.if_lt (tgt := 21) dX3_letterAt_1 rfl (fun c1 => ?_) (fun c1 => ?_)
  · skip
    refine Ev.iconst dX3_letterAt_21 ⟨by decide, by decide⟩ ?_
    first | rw [show σ (200 + p) = Lx σ p by unfold Lx; rw [if_pos (by omega)]] | rw [show iv 0 = iv (Lx σ p) by unfold Lx; rw [if_neg (by omega)]]
    refine Ev.iret dX3_letterAt_22 rfl hl.2.2 ?_
    exact ⟨rfl, rfl⟩
  · skip
    refine Ev.iload_n dX3_letterAt_4 rfl ?_
    refine Ev.aload_n dX3_letterAt_5 rfl ?_
    refine Ev.geti (22) dX3_letterAt_6 fl_X3_19 lx_20 (by decide) rfl rfl ?_
    refine Ev.icmp_ge (tgt := 21) dX3_letterAt_9 rfl (fun c9 => ?_) (fun c9 => ?_)
    · skip
      refine Ev.iconst dX3_letterAt_21 ⟨by decide, by decide⟩ ?_
      first | rw [show σ (200 + p) = Lx σ p by unfold Lx; rw [if_pos (by omega)]] | rw [show iv 0 = iv (Lx σ p) by unfold Lx; rw [if_neg (by omega)]]
      refine Ev.iret dX3_letterAt_22 rfl hl.2.2 ?_
      exact ⟨rfl, rfl⟩
    · skip
      refine Ev.aload_n dX3_letterAt_12 rfl ?_
      refine Ev.getr (200) dX3_letterAt_13 fl_X3_9 lx_20 (by decide) rfl rfl ?_
      refine Ev.iload_n dX3_letterAt_16 rfl ?_
      refine Ev.cald dX3_letterAt_17 lx_200 (by omega) (by omega) ?_
      refine Ev.goto (tgt := 22) dX3_letterAt_18 rfl ?_
      first | rw [show σ (200 + p) = Lx σ p by unfold Lx; rw [if_pos (by omega)]] | rw [show iv 0 = iv (Lx σ p) by unfold Lx; rw [if_neg (by omega)]]
      refine Ev.iret dX3_letterAt_22 rfl hl.2.2 ?_
      exact ⟨rfl, rfl⟩
theorem s_X3_isFigure {b p : Int} {σ : ev_M} (hX : XI b σ) : Ev jX3_isFigure layX 0 [some (rv 20), some (iv p), none] [] σ (fun r σ' => ((r = 1 ∧ 48 ≤ Lx σ p ∧ Lx σ p ≤ 57) ∨ (r = 0 ∧ ¬ (48 ≤ Lx σ p ∧ Lx σ p ≤ 57))) ∧ σ' = σ) := by
  refine Ev.aload_n dX3_isFigure_0 rfl ?_
  refine Ev.iload_n dX3_isFigure_1 rfl ?_
  refine Ev.Vi1 (I' := jX3_letterAt) ml_X3_34 dX3_isFigure_2 cyX3_letterAt lx_20 rfl (by decide) ⟨by decide, by decide⟩ (by simp) rfl rfl (s_X3_letterAt hX) (fun r σ' hr2 hq => ?_)
  obtain ⟨rfl, hq⟩ := hq
  replace hq := hq.symm
  subst hq
  refine Ev.istore2 rfl dX3_isFigure_5 ?_
  refine Ev.iload_n dX3_isFigure_6 rfl ?_
  refine Ev.bipush dX3_isFigure_7 ⟨by decide, by decide⟩ (by decide) ?_
  refine Ev.icmp_lt (tgt := 22) dX3_isFigure_9 rfl (fun c9 => ?_) (fun c9 => ?_)
  · skip
    refine Ev.iconst dX3_isFigure_22 ⟨by decide, by decide⟩ ?_
    refine Ev.bool rfl dX3_isFigure_23 (by omega) ?_
    exact ⟨by omega, rfl⟩
  · skip
    refine Ev.iload_n dX3_isFigure_12 rfl ?_
    refine Ev.bipush dX3_isFigure_13 ⟨by decide, by decide⟩ (by decide) ?_
    refine Ev.icmp_gt (tgt := 22) dX3_isFigure_15 rfl (fun c15 => ?_) (fun c15 => ?_)
    · skip
      refine Ev.iconst dX3_isFigure_22 ⟨by decide, by decide⟩ ?_
      refine Ev.bool rfl dX3_isFigure_23 (by omega) ?_
      exact ⟨by omega, rfl⟩
    · skip
      refine Ev.iconst dX3_isFigure_18 ⟨by decide, by decide⟩ ?_
      refine Ev.goto (tgt := 23) dX3_isFigure_19 rfl ?_
      refine Ev.bool rfl dX3_isFigure_23 (by omega) ?_
      exact ⟨by omega, rfl⟩
theorem s_X3_figuresAt {b p : Int} {σ : ev_M} (hX : XI b σ) (hp : ev_in (p + 1)) : Ev jX3_figuresAt layX 0 [some (rv 20), some (iv p)] [] σ (fun r σ' => r = nf (Lx σ) p ∧ σ' = σ) := by
  unfold ev_in at hp
  refine Ev.aload_n dX3_figuresAt_0 rfl ?_
  refine Ev.iload_n dX3_figuresAt_1 rfl ?_
  refine Ev.Vi1 (I' := jX3_isFigure) ml_X3_51 dX3_figuresAt_2 cyX3_isFigure lx_20 rfl (by decide) ⟨by decide, by decide⟩ (by simp) rfl rfl (s_X3_isFigure hX) (fun r σ' hr2 hq => ?_)
  obtain ⟨hq1, hq⟩ := hq
  replace hq := hq.symm
  subst hq
  refine Ev.if_ne (tgt := 10) dX3_figuresAt_5 rfl (fun c5 => ?_) (fun c5 => ?_)
  · skip
    refine Ev.aload_n dX3_figuresAt_10 rfl ?_
    refine Ev.iload_n dX3_figuresAt_11 rfl ?_
    refine Ev.iconst dX3_figuresAt_12 ⟨by decide, by decide⟩ ?_
    refine Ev.iadd dX3_figuresAt_13 (by unfold ev_in; omega) ?_
    refine Ev.Vi1 (I' := jX3_isFigure) ml_X3_51 dX3_figuresAt_14 cyX3_isFigure lx_20 rfl (by decide) ⟨by decide, by decide⟩ (by simp) rfl rfl (s_X3_isFigure hX) (fun r σ' hr14 hq => ?_)
    obtain ⟨hq1, hq⟩ := hq
    replace hq := hq.symm
    subst hq
    refine Ev.if_eq (tgt := 24) dX3_figuresAt_17 rfl (fun c17 => ?_) (fun c17 => ?_)
    · skip
      refine Ev.iconst dX3_figuresAt_24 ⟨by decide, by decide⟩ ?_
      refine Ev.int rfl dX3_figuresAt_25 ?_
      refine ⟨?_, rfl⟩
      unfold nf
      repeat (first | rw [if_pos (by omega)] | rw [if_neg (by omega)])
    · skip
      refine Ev.iconst dX3_figuresAt_20 ⟨by decide, by decide⟩ ?_
      refine Ev.goto (tgt := 25) dX3_figuresAt_21 rfl ?_
      refine Ev.int rfl dX3_figuresAt_25 ?_
      refine ⟨?_, rfl⟩
      unfold nf
      repeat (first | rw [if_pos (by omega)] | rw [if_neg (by omega)])
  · skip
    refine Ev.iconst dX3_figuresAt_8 ⟨by decide, by decide⟩ ?_
    refine Ev.int rfl dX3_figuresAt_9 ?_
    refine ⟨?_, rfl⟩
    unfold nf
    repeat (first | rw [if_pos (by omega)] | rw [if_neg (by omega)])
theorem s_X3_numberAt {b p f : Int} {σ : ev_M} (hX : XI b σ) (hp : ev_in (p + 2)) (hp0 : 0 ≤ p) (hf : f = nf (Lx σ) p) : Ev jX3_numberAt layX 0 [some (rv 20), some (iv p), some (iv f), none, none] [] σ (fun r σ' => r = nv (Lx σ) p ∧ σ' = σ) := by
  unfold ev_in at hp
  have l0 := hX.txt (p := p)
  have l1 := hX.txt (p := p + 1)
  have hn := nf_rng (L := Lx σ) (p := p)
  have e0 : nf (Lx σ) p = 0 ∨ nf (Lx σ) p = 1 ∨ nf (Lx σ) p = 2 := by omega
  have v0 : nf (Lx σ) p = 0 → nv (Lx σ) p = 0 := by
    unfold nf nv
    repeat' split
    all_goals omega
  have v1 : nf (Lx σ) p = 1 → nv (Lx σ) p = Lx σ p - 48 := by
    unfold nf nv
    repeat' split
    all_goals omega
  have v2 : nf (Lx σ) p = 2 → nv (Lx σ) p = 10 * (Lx σ p - 48) + Lx σ (p + 1) - 48 := by
    unfold nf nv
    repeat' split
    all_goals omega
  have ep : p + 0 = p := by omega
  refine Ev.iconst dX3_numberAt_0 ⟨by decide, by decide⟩ ?_
  refine Ev.istore3 rfl dX3_numberAt_1 ?_
  refine Ev.iconst dX3_numberAt_2 ⟨by decide, by decide⟩ ?_
  refine Ev.istore4 dX3_numberAt_3 ?_
  refine Ev.iload dX3_numberAt_5 rfl ?_
  refine Ev.iload_n dX3_numberAt_7 rfl ?_
  refine Ev.icmp_ge (tgt := 34) dX3_numberAt_8 rfl (fun c8 => ?_) (fun c8 => ?_)
  · skip
    refine Ev.iload_n dX3_numberAt_34 rfl ?_
    refine Ev.int rfl dX3_numberAt_35 ?_
    refine ⟨?_, rfl⟩
    omega
  · skip
    refine Ev.iload_n dX3_numberAt_11 rfl ?_
    refine Ev.bipush dX3_numberAt_12 ⟨by decide, by decide⟩ (by decide) ?_
    refine Ev.imul dX3_numberAt_14 (by unfold ev_in; omega) ?_
    refine Ev.aload_n dX3_numberAt_15 rfl ?_
    refine Ev.iload_n dX3_numberAt_16 rfl ?_
    refine Ev.iload dX3_numberAt_17 rfl ?_
    refine Ev.iadd dX3_numberAt_19 (by unfold ev_in; omega) ?_
    try rw [show p + 0 = p from ep]
    try rw [show (0 : Int) + 1 = 1 from rfl]
    refine Ev.Vi1 (I' := jX3_letterAt) ml_X3_34 dX3_numberAt_20 cyX3_letterAt lx_20 rfl (by decide) ⟨by decide, by decide⟩ (by simp) rfl rfl (s_X3_letterAt hX) (fun r σ' hr20 hq => ?_)
    obtain ⟨rfl, hq⟩ := hq
    replace hq := hq.symm
    subst hq
    refine Ev.iadd dX3_numberAt_23 (by unfold ev_in; omega) ?_
    refine Ev.bipush dX3_numberAt_24 ⟨by decide, by decide⟩ (by decide) ?_
    refine Ev.isub dX3_numberAt_26 (by unfold ev_in; omega) ?_
    refine Ev.istore3 rfl dX3_numberAt_27 ?_
    refine Ev.iinc4 dX3_numberAt_28 (by unfold ev_in; omega) ?_
    refine Ev.goto (tgt := 5) dX3_numberAt_31 rfl ?_
    refine Ev.iload dX3_numberAt_5 rfl ?_
    refine Ev.iload_n dX3_numberAt_7 rfl ?_
    refine Ev.icmp_ge (tgt := 34) dX3_numberAt_8 rfl (fun c8 => ?_) (fun c8 => ?_)
    · skip
      refine Ev.iload_n dX3_numberAt_34 rfl ?_
      refine Ev.int rfl dX3_numberAt_35 ?_
      refine ⟨?_, rfl⟩
      omega
    · skip
      refine Ev.iload_n dX3_numberAt_11 rfl ?_
      refine Ev.bipush dX3_numberAt_12 ⟨by decide, by decide⟩ (by decide) ?_
      refine Ev.imul dX3_numberAt_14 (by unfold ev_in; omega) ?_
      refine Ev.aload_n dX3_numberAt_15 rfl ?_
      refine Ev.iload_n dX3_numberAt_16 rfl ?_
      refine Ev.iload dX3_numberAt_17 rfl ?_
      refine Ev.iadd dX3_numberAt_19 (by unfold ev_in; omega) ?_
      try rw [show p + 0 = p from ep]
      try rw [show (0 : Int) + 1 = 1 from rfl]
      refine Ev.Vi1 (I' := jX3_letterAt) ml_X3_34 dX3_numberAt_20 cyX3_letterAt lx_20 rfl (by decide) ⟨by decide, by decide⟩ (by simp) rfl rfl (s_X3_letterAt hX) (fun r σ' hr20 hq => ?_)
      obtain ⟨rfl, hq⟩ := hq
      replace hq := hq.symm
      subst hq
      refine Ev.iadd dX3_numberAt_23 (by unfold ev_in; omega) ?_
      refine Ev.bipush dX3_numberAt_24 ⟨by decide, by decide⟩ (by decide) ?_
      refine Ev.isub dX3_numberAt_26 (by unfold ev_in; omega) ?_
      refine Ev.istore3 rfl dX3_numberAt_27 ?_
      refine Ev.iinc4 dX3_numberAt_28 (by unfold ev_in; omega) ?_
      refine Ev.goto (tgt := 5) dX3_numberAt_31 rfl ?_
      refine Ev.iload dX3_numberAt_5 rfl ?_
      refine Ev.iload_n dX3_numberAt_7 rfl ?_
      refine Ev.icmp_ge (tgt := 34) dX3_numberAt_8 rfl (fun c8 => ?_) (fun c8 => ?_)
      · skip
        refine Ev.iload_n dX3_numberAt_34 rfl ?_
        refine Ev.int rfl dX3_numberAt_35 ?_
        refine ⟨?_, rfl⟩
        omega
      · skip
        omega
/-- only the numbers read have changed, and how many items they are of -/
def XF (σ σ' : ev_M) : Prop := ∀ k, ¬ (k = 23 ∨ (60 ≤ k ∧ k < 90)) → σ' k = σ k
theorem XF.rf {σ : ev_M} : XF σ σ := fun _ _ => rfl
theorem XF.up {σ ρ : ev_M} {n v : Int} (h : XF σ ρ) (hn : n = 23 ∨ (60 ≤ n ∧ n < 90)) : XF σ (ev_up ρ n v) := fun k hk => by
  rw [ev_up_ne (by intro z; subst z; exact hk hn)]
  exact h k hk
theorem XF.L {σ ρ : ev_M} {b : Int} (h : XF σ ρ) (hX : XI b σ) : Lx ρ = Lx σ := by
  funext p
  have := hX.s22
  unfold Lx
  rw [h 22 (by decide)]
  split
  · rw [h (200 + p) (by omega)]
  · rfl
theorem least_v : ∀ k : Fin 5, stv (500 + ((k : Nat) : Int)) = (if (k : Nat) = 3 then 1 else 0) ∧ stv (510 + ((k : Nat) : Int)) = hst ((k : Nat) : Int) := by decide
theorem XI.lg {b : Int} {σ : ev_M} (h : XI b σ) {k : Nat} (hk : k < 5) : σ (500 + (k : Int)) = (if k = 3 then 1 else 0) ∧ σ (510 + (k : Int)) = hst (k : Int) := by
  have := least_v ⟨k, hk⟩
  rw [h.st (by omega), h.st (by omega)]
  exact this
def XR (σ : ev_M) (p a b : Int) (k : Nat) (ρ : ev_M) : Prop := XF σ ρ ∧ XI b ρ ∧ ρ 23 = σ 23 ∧ (∀ j : Nat, j < k → nok (Lx σ) p j) ∧ (k = 0 ∨ (k < 5 ∧ Lx σ (en (Lx σ) p k) = 44) ∨ (k = 5 ∧ Lx σ (en (Lx σ) p 5) = 59)) ∧ (∀ j : Nat, j < k → ρ (60 + (a + (j : Int))) = vl (Lx σ) p j) ∧ ∀ m, ¬ (60 + a ≤ m ∧ m < 60 + a + 5) → ρ m = σ m
def XQ (σ : ev_M) (p a b r : Int) (σ' : ev_M) : Prop := XF σ σ' ∧ XI b σ' ∧ ((r = en (Lx σ) p 5 + 1 ∧ itok (Lx σ) p ∧ (∀ j : Nat, j < 5 → σ' (60 + (a + (j : Int))) = vl (Lx σ) p j) ∧ ∀ m, ¬ (60 + a ≤ m ∧ m < 60 + a + 5) → σ' m = σ m) ∨ (r = -1 ∧ ¬ itok (Lx σ) p))
theorem t_xri {σ : ev_M} {p a b : Int} (hX : XI b σ) (hp : 0 ≤ p) (hp2 : p ≤ 300) (ha0 : 0 ≤ a) (ha1 : a ≤ 25) (hd : Lx σ p = 100) : ∀ (j k : Nat) (ρ : ev_M) (x5 x6 : Option ev_V), k + j = 5 → XR σ p a b k ρ → Ev jX3_readItem layX 19 [some (rv 20), some (iv p), some (iv a), some (iv (en (Lx σ) p k + 1)), some (iv (k : Int)), x5, x6] [] ρ (fun r σ' => XQ σ p a b r σ') := by
  intro j
  induction j with
  | zero =>
    intro k ρ x5 x6 hk hR
    have hk5 : k = 5 := by omega
    subst hk5
    obtain ⟨r1, r2, r3, r4, r5, r6, r7⟩ := hR
    refine Ev.iload dX3_readItem_19 rfl ?_
    refine Ev.iconst dX3_readItem_21 ⟨by decide, by decide⟩ ?_
    refine Ev.icmp_ge (tgt := 118) dX3_readItem_22 rfl (fun c22 => ?_) (fun c22 => ?_)
    · skip
      refine Ev.iload_n dX3_readItem_118 rfl ?_
      refine Ev.int rfl dX3_readItem_119 ?_
      exact ⟨r1, r2, Or.inl ⟨rfl, ⟨hd, r4, by rcases r5 with z | ⟨z, -⟩ | ⟨-, z⟩ <;> first | exact absurd z (by decide) | exact z⟩, r6, r7⟩⟩
    · skip
      exact absurd c22 (by decide)
  | succ j ih =>
    intro k ρ x5 x6 hk hR
    have hR' := hR
    obtain ⟨r1, r2, r3, r4, r5, r6, r7⟩ := hR'
    have ek := en_rng (L := Lx σ) (p := p) k
    have hL := r1.L hX
    have fr := nf_rng (L := Lx σ) (p := en (Lx σ) p k + 1)
    have vr := nv_rng (L := Lx σ) (p := en (Lx σ) p k + 1)
    obtain ⟨hlo, hhi⟩ := r2.lg (k := k) (by omega)
    have h44 : k = 0 ∨ Lx σ (en (Lx σ) p k) = 44 := by
      rcases r5 with z | z | z
      · exact Or.inl z
      · exact Or.inr z.2
      · omega
    have e1 : en (Lx σ) p (k + 1) = en (Lx σ) p k + 1 + nf (Lx σ) (en (Lx σ) p k + 1) := rfl
    have ev : vl (Lx σ) p k = nv (Lx σ) (en (Lx σ) p k + 1) := rfl
    have bad : ¬ nok (Lx σ) p k → XQ σ p a b (-1) ρ := fun hn => ⟨r1, r2, Or.inr ⟨rfl, fun z => hn (z.2.1 k (by omega))⟩⟩
    have bad2 : ¬ Lx σ (en (Lx σ) p (k + 1)) = (if k = 4 then 59 else 44) → XQ σ p a b (-1) ρ := by
      intro hn
      refine ⟨r1, r2, Or.inr ⟨rfl, fun z => hn ?_⟩⟩
      by_cases h4 : k = 4
      · rw [if_pos h4, h4]; exact z.2.2
      · rw [if_neg h4]
        rcases (z.2.1 (k + 1) (by omega)).1 with y | y
        · omega
        · exact y
    have good : nok (Lx σ) p k → Lx σ (en (Lx σ) p (k + 1)) = (if k = 4 then 59 else 44) → XR σ p a b (k + 1) (ev_up ρ (60 + (a + (k : Int))) (nv (Lx σ) (en (Lx σ) p k + 1))) := by
      intro hn hs
      refine ⟨r1.up (Or.inr (by omega)), r2.unum (by omega) (by omega) (by omega), by rw [ev_up_ne (by omega), r3], ?_, ?_, ?_, ?_⟩
      · intro i hi
        by_cases hik : i = k
        · rw [hik]; exact hn
        · exact r4 i (by omega)
      · by_cases h4 : k = 4
        · subst h4
          rw [if_pos rfl] at hs
          exact Or.inr (Or.inr ⟨rfl, hs⟩)
        · rw [if_neg h4] at hs
          exact Or.inr (Or.inl ⟨by omega, hs⟩)
      · intro i hi
        by_cases hik : i = k
        · subst hik; rw [ev_up_eq]; rfl
        · rw [ev_up_ne (by omega), r6 i (by omega)]
      · intro m hm
        rw [ev_up_ne (by omega), r7 m hm]
    have nk : (0 < nf (Lx σ) (en (Lx σ) p k + 1) ∧ ρ (500 + (k : Int)) ≤ nv (Lx σ) (en (Lx σ) p k + 1) ∧ nv (Lx σ) (en (Lx σ) p k + 1) ≤ ρ (510 + (k : Int))) ↔ nok (Lx σ) p k := by
      unfold nok
      rw [hlo, hhi, ev]
      constructor
      · intro z; exact ⟨h44, z⟩
      · intro z; exact z.2
    refine Ev.iload dX3_readItem_19 rfl ?_
    refine Ev.iconst dX3_readItem_21 ⟨by decide, by decide⟩ ?_
    refine Ev.icmp_ge (tgt := 118) dX3_readItem_22 rfl (fun c22 => ?_) (fun c22 => ?_)
    · skip
      exact absurd c22 (by omega)
    · skip
      refine Ev.aload_n dX3_readItem_25 rfl ?_
      refine Ev.iload_n dX3_readItem_26 rfl ?_
      refine Ev.Vi1 (I' := jX3_figuresAt) ml_X3_38 dX3_readItem_27 cyX3_figuresAt lx_20 rfl (by decide) ⟨by decide, by decide⟩ (by simp) rfl rfl (s_X3_figuresAt r2 (by unfold ev_in; omega)) (fun r σ' hr27 hq => ?_)
      rw [hL] at hq
      obtain ⟨rfl, hq⟩ := hq
      replace hq := hq.symm
      subst hq
      refine Ev.istore5 dX3_readItem_30 ?_
      refine Ev.aload_n dX3_readItem_32 rfl ?_
      refine Ev.iload_n dX3_readItem_33 rfl ?_
      refine Ev.iload dX3_readItem_34 rfl ?_
      refine Ev.Vi2 (I' := jX3_numberAt) ml_X3_42 dX3_readItem_36 cyX3_numberAt lx_20 rfl (by decide) ⟨by decide, by decide⟩ (by simp) rfl rfl (s_X3_numberAt r2 (by unfold ev_in; omega) (by omega) (by rw [hL])) (fun r σ' hr36 hq => ?_)
      rw [hL] at hq
      obtain ⟨rfl, hq⟩ := hq
      replace hq := hq.symm
      subst hq
      refine Ev.istore6 dX3_readItem_39 ?_
      refine Ev.iload dX3_readItem_41 rfl ?_
      refine Ev.if_eq (tgt := 68) dX3_readItem_43 rfl (fun c43 => ?_) (fun c43 => ?_)
      · skip
        refine Ev.iconst dX3_readItem_68 ⟨by decide, by decide⟩ ?_
        refine Ev.int rfl dX3_readItem_69 ?_
        exact bad (fun z => by have := nk.mpr z; omega)
      · skip
        refine Ev.iload dX3_readItem_46 rfl ?_
        refine Ev.gets dX3_readItem_48 lx_500 gs_X3_45 ?_
        refine Ev.iload dX3_readItem_51 rfl ?_
        refine Ev.iald dX3_readItem_53 lx_500 (Or.inr rfl) (by omega) (by omega) ?_
        refine Ev.icmp_lt (tgt := 68) dX3_readItem_54 rfl (fun c54 => ?_) (fun c54 => ?_)
        · skip
          refine Ev.iconst dX3_readItem_68 ⟨by decide, by decide⟩ ?_
          refine Ev.int rfl dX3_readItem_69 ?_
          exact bad (fun z => by have := nk.mpr z; omega)
        · skip
          refine Ev.iload dX3_readItem_57 rfl ?_
          refine Ev.gets dX3_readItem_59 lx_510 gs_X3_48 ?_
          refine Ev.iload dX3_readItem_62 rfl ?_
          refine Ev.iald dX3_readItem_64 lx_510 (Or.inr rfl) (by omega) (by omega) ?_
          refine Ev.icmp_le (tgt := 70) dX3_readItem_65 rfl (fun c65 => ?_) (fun c65 => ?_)
          · skip
            refine Ev.iload_n dX3_readItem_70 rfl ?_
            refine Ev.iload dX3_readItem_71 rfl ?_
            refine Ev.iadd dX3_readItem_73 (by unfold ev_in; omega) ?_
            refine Ev.istore3 rfl dX3_readItem_74 ?_
            refine Ev.aload_n dX3_readItem_75 rfl ?_
            refine Ev.iload_n dX3_readItem_76 rfl ?_
            refine Ev.Vi1 (I' := jX3_letterAt) ml_X3_34 dX3_readItem_77 cyX3_letterAt lx_20 rfl (by decide) ⟨by decide, by decide⟩ (by simp) rfl rfl (s_X3_letterAt r2) (fun r σ' hr77 hq => ?_)
            rw [hL, ← e1] at hq
            obtain ⟨rfl, hq⟩ := hq
            replace hq := hq.symm
            subst hq
            refine Ev.iload dX3_readItem_80 rfl ?_
            refine Ev.iconst dX3_readItem_82 ⟨by decide, by decide⟩ ?_
            refine Ev.icmp_ne (tgt := 91) dX3_readItem_83 rfl (fun c83 => ?_) (fun c83 => ?_)
            · skip
              refine Ev.bipush dX3_readItem_91 ⟨by decide, by decide⟩ (by decide) ?_
              refine Ev.icmp_eq (tgt := 98) dX3_readItem_93 rfl (fun c93 => ?_) (fun c93 => ?_)
              · skip
                refine Ev.iinc3 dX3_readItem_98 (by unfold ev_in; omega) ?_
                refine Ev.aload_n dX3_readItem_101 rfl ?_
                refine Ev.getr (60) dX3_readItem_102 fl_X3_15 lx_20 (by decide) rfl rfl ?_
                refine Ev.iload_n dX3_readItem_105 rfl ?_
                refine Ev.iload dX3_readItem_106 rfl ?_
                refine Ev.iadd dX3_readItem_108 (by unfold ev_in; omega) ?_
                refine Ev.iload dX3_readItem_109 rfl ?_
                refine Ev.iast dX3_readItem_111 lx_60 (by omega) (by omega) ?_
                refine Ev.iinc4 dX3_readItem_112 (by unfold ev_in; omega) ?_
                refine Ev.goto (tgt := 19) dX3_readItem_115 rfl ?_
                rw [show en (Lx σ) p k + 1 + nf (Lx σ) (en (Lx σ) p k + 1) = en (Lx σ) p (k + 1) from rfl]
                exact ih (k + 1) _ _ _ (by omega) (good (nk.mp (by omega)) (by first | (rw [if_pos (by omega)]; omega) | (rw [if_neg (by omega)]; omega)))
              · skip
                refine Ev.iconst dX3_readItem_96 ⟨by decide, by decide⟩ ?_
                refine Ev.int rfl dX3_readItem_97 ?_
                exact bad2 (by first | (rw [if_pos (by omega)]; omega) | (rw [if_neg (by omega)]; omega))
            · skip
              refine Ev.bipush dX3_readItem_86 ⟨by decide, by decide⟩ (by decide) ?_
              refine Ev.goto (tgt := 93) dX3_readItem_88 rfl ?_
              refine Ev.icmp_eq (tgt := 98) dX3_readItem_93 rfl (fun c93 => ?_) (fun c93 => ?_)
              · skip
                refine Ev.iinc3 dX3_readItem_98 (by unfold ev_in; omega) ?_
                refine Ev.aload_n dX3_readItem_101 rfl ?_
                refine Ev.getr (60) dX3_readItem_102 fl_X3_15 lx_20 (by decide) rfl rfl ?_
                refine Ev.iload_n dX3_readItem_105 rfl ?_
                refine Ev.iload dX3_readItem_106 rfl ?_
                refine Ev.iadd dX3_readItem_108 (by unfold ev_in; omega) ?_
                refine Ev.iload dX3_readItem_109 rfl ?_
                refine Ev.iast dX3_readItem_111 lx_60 (by omega) (by omega) ?_
                refine Ev.iinc4 dX3_readItem_112 (by unfold ev_in; omega) ?_
                refine Ev.goto (tgt := 19) dX3_readItem_115 rfl ?_
                rw [show en (Lx σ) p k + 1 + nf (Lx σ) (en (Lx σ) p k + 1) = en (Lx σ) p (k + 1) from rfl]
                exact ih (k + 1) _ _ _ (by omega) (good (nk.mp (by omega)) (by first | (rw [if_pos (by omega)]; omega) | (rw [if_neg (by omega)]; omega)))
              · skip
                refine Ev.iconst dX3_readItem_96 ⟨by decide, by decide⟩ ?_
                refine Ev.int rfl dX3_readItem_97 ?_
                exact bad2 (by first | (rw [if_pos (by omega)]; omega) | (rw [if_neg (by omega)]; omega))
          · skip
            refine Ev.iconst dX3_readItem_68 ⟨by decide, by decide⟩ ?_
            refine Ev.int rfl dX3_readItem_69 ?_
            exact bad (fun z => by have := nk.mpr z; omega)
theorem s_X3_readItem {σ : ev_M} {p a b : Int} (hX : XI b σ) (hp : 0 ≤ p) (hp2 : p ≤ 300) (ha0 : 0 ≤ a) (ha1 : a ≤ 25) : Ev jX3_readItem layX 0 [some (rv 20), some (iv p), some (iv a), none, none, none, none] [] σ (fun r σ' => XQ σ p a b r σ') := by
  refine Ev.aload_n dX3_readItem_0 rfl ?_
  refine Ev.iload_n dX3_readItem_1 rfl ?_
  refine Ev.Vi1 (I' := jX3_letterAt) ml_X3_34 dX3_readItem_2 cyX3_letterAt lx_20 rfl (by decide) ⟨by decide, by decide⟩ (by simp) rfl rfl (s_X3_letterAt hX) (fun r σ' hr2 hq => ?_)
  obtain ⟨rfl, hq⟩ := hq
  replace hq := hq.symm
  subst hq
  refine Ev.bipush dX3_readItem_5 ⟨by decide, by decide⟩ (by decide) ?_
  refine Ev.icmp_eq (tgt := 12) dX3_readItem_7 rfl (fun c7 => ?_) (fun c7 => ?_)
  · skip
    refine Ev.iload_n dX3_readItem_12 rfl ?_
    refine Ev.iconst dX3_readItem_13 ⟨by decide, by decide⟩ ?_
    refine Ev.iadd dX3_readItem_14 (by unfold ev_in; omega) ?_
    refine Ev.istore3 rfl dX3_readItem_15 ?_
    refine Ev.iconst dX3_readItem_16 ⟨by decide, by decide⟩ ?_
    refine Ev.istore4 dX3_readItem_17 ?_
    exact t_xri hX hp hp2 ha0 ha1 (by omega) 5 0 _ _ _ (by decide) ⟨XF.rf, hX, rfl, fun j hj => absurd hj (by omega), Or.inl rfl, fun j hj => absurd hj (by omega), fun m hm => rfl⟩
  · skip
    refine Ev.iconst dX3_readItem_10 ⟨by decide, by decide⟩ ?_
    refine Ev.int rfl dX3_readItem_11 ?_
    exact ⟨XF.rf, hX, Or.inr ⟨rfl, fun z => absurd z.1 (by omega)⟩⟩
def tkn (σ : ev_M) (n d : Int) : Prop := σ (60 + (d * 5 + 1)) = σ (60 + (n * 5 + 1)) ∧ ¬ (σ (60 + (n * 5 + 2)) ≠ σ (60 + (d * 5 + 2)) ∧ σ (60 + (n * 5 + 2)) ≠ 31 ∧ σ (60 + (d * 5 + 2)) ≠ 31)
theorem s_X3_hasTakenAddress {σ : ev_M} {n : Int} (h0 : 0 ≤ n) (h1 : n < 6) : Ev jX3_hasTakenAddress layX 0 [some (rv 20), some (iv n), none, none, none, none, none] [] σ (fun r σ' => ((r = 1 ∧ ∃ d : Nat, (d : Int) < n ∧ tkn σ n (d : Int)) ∨ (r = 0 ∧ ∀ d : Nat, (d : Int) < n → ¬ tkn σ n (d : Int))) ∧ σ' = σ) := by
  have loop : ∀ (j k : Nat) (x5 x6 : Option ev_V), (k : Int) + j = n → (∀ d : Nat, d < k → ¬ tkn σ n (d : Int)) → Ev jX3_hasTakenAddress layX 25 [some (rv 20), some (iv n), some (iv (σ (60 + (n * 5 + 1)))), some (iv (σ (60 + (n * 5 + 2)))), some (iv (k : Int)), x5, x6] [] σ (fun r σ' => ((r = 1 ∧ ∃ d : Nat, (d : Int) < n ∧ tkn σ n (d : Int)) ∨ (r = 0 ∧ ∀ d : Nat, (d : Int) < n → ¬ tkn σ n (d : Int))) ∧ σ' = σ) := by
    intro j
    induction j with
    | zero =>
      intro k x5 x6 hk hz
      refine Ev.iload dX3_hasTakenAddress_25 rfl ?_
      refine Ev.iload_n dX3_hasTakenAddress_27 rfl ?_
      refine Ev.icmp_ge (tgt := 98) dX3_hasTakenAddress_28 rfl (fun c28 => ?_) (fun c28 => ?_)
      · skip
        refine Ev.iconst dX3_hasTakenAddress_98 ⟨by decide, by decide⟩ ?_
        refine Ev.bool rfl dX3_hasTakenAddress_99 (by omega) ?_
        exact ⟨Or.inr ⟨rfl, fun d hd => hz d (by omega)⟩, rfl⟩
      · skip
        exact absurd c28 (by omega)
    | succ j ih =>
      intro k x5 x6 hk hz
      refine Ev.iload dX3_hasTakenAddress_25 rfl ?_
      refine Ev.iload_n dX3_hasTakenAddress_27 rfl ?_
      refine Ev.icmp_ge (tgt := 98) dX3_hasTakenAddress_28 rfl (fun c28 => ?_) (fun c28 => ?_)
      · skip
        exact absurd c28 (by omega)
      · skip
        refine Ev.aload_n dX3_hasTakenAddress_31 rfl ?_
        refine Ev.getr (60) dX3_hasTakenAddress_32 fl_X3_15 lx_20 (by decide) rfl rfl ?_
        refine Ev.iload dX3_hasTakenAddress_35 rfl ?_
        refine Ev.iconst dX3_hasTakenAddress_37 ⟨by decide, by decide⟩ ?_
        refine Ev.imul dX3_hasTakenAddress_38 (by unfold ev_in; omega) ?_
        refine Ev.iconst dX3_hasTakenAddress_39 ⟨by decide, by decide⟩ ?_
        refine Ev.iadd dX3_hasTakenAddress_40 (by unfold ev_in; omega) ?_
        refine Ev.iald dX3_hasTakenAddress_41 lx_60 (Or.inl rfl) (by omega) (by omega) ?_
        refine Ev.istore5 dX3_hasTakenAddress_42 ?_
        refine Ev.iload_n dX3_hasTakenAddress_44 rfl ?_
        refine Ev.iload dX3_hasTakenAddress_45 rfl ?_
        refine Ev.icmp_eq (tgt := 67) dX3_hasTakenAddress_47 rfl (fun c47 => ?_) (fun c47 => ?_)
        · skip
          refine Ev.iconst dX3_hasTakenAddress_67 ⟨by decide, by decide⟩ ?_
          refine Ev.istore6 dX3_hasTakenAddress_68 ?_
          refine Ev.aload_n dX3_hasTakenAddress_70 rfl ?_
          refine Ev.getr (60) dX3_hasTakenAddress_71 fl_X3_15 lx_20 (by decide) rfl rfl ?_
          refine Ev.iload dX3_hasTakenAddress_74 rfl ?_
          refine Ev.iconst dX3_hasTakenAddress_76 ⟨by decide, by decide⟩ ?_
          refine Ev.imul dX3_hasTakenAddress_77 (by unfold ev_in; omega) ?_
          refine Ev.iconst dX3_hasTakenAddress_78 ⟨by decide, by decide⟩ ?_
          refine Ev.iadd dX3_hasTakenAddress_79 (by unfold ev_in; omega) ?_
          refine Ev.iald dX3_hasTakenAddress_80 lx_60 (Or.inl rfl) (by omega) (by omega) ?_
          refine Ev.iload_n dX3_hasTakenAddress_81 rfl ?_
          refine Ev.icmp_ne (tgt := 92) dX3_hasTakenAddress_82 rfl (fun c82 => ?_) (fun c82 => ?_)
          · skip
            refine Ev.iinc4 dX3_hasTakenAddress_92 (by unfold ev_in; omega) ?_
            refine Ev.goto (tgt := 25) dX3_hasTakenAddress_95 rfl ?_
            first | (exfalso; omega) | (refine ih (k + 1) _ _ (by omega) (fun d hd => ?_); rcases (show d < k ∨ d = k by omega) with hdk | rfl <;> first | exact hz d hdk | (unfold tkn; omega))
          · skip
            refine Ev.iload dX3_hasTakenAddress_85 rfl ?_
            refine Ev.if_ne (tgt := 92) dX3_hasTakenAddress_87 rfl (fun c87 => ?_) (fun c87 => ?_)
            · skip
              refine Ev.iinc4 dX3_hasTakenAddress_92 (by unfold ev_in; omega) ?_
              refine Ev.goto (tgt := 25) dX3_hasTakenAddress_95 rfl ?_
              first | (exfalso; omega) | (refine ih (k + 1) _ _ (by omega) (fun d hd => ?_); rcases (show d < k ∨ d = k by omega) with hdk | rfl <;> first | exact hz d hdk | (unfold tkn; omega))
            · skip
              refine Ev.iconst dX3_hasTakenAddress_90 ⟨by decide, by decide⟩ ?_
              refine Ev.bool rfl dX3_hasTakenAddress_91 (by omega) ?_
              first | (exfalso; omega) | exact ⟨Or.inl ⟨rfl, k, by omega, by unfold tkn; omega⟩, rfl⟩
        · skip
          refine Ev.iload_n dX3_hasTakenAddress_50 rfl ?_
          refine Ev.bipush dX3_hasTakenAddress_51 ⟨by decide, by decide⟩ (by decide) ?_
          refine Ev.icmp_eq (tgt := 67) dX3_hasTakenAddress_53 rfl (fun c53 => ?_) (fun c53 => ?_)
          · skip
            refine Ev.iconst dX3_hasTakenAddress_67 ⟨by decide, by decide⟩ ?_
            refine Ev.istore6 dX3_hasTakenAddress_68 ?_
            refine Ev.aload_n dX3_hasTakenAddress_70 rfl ?_
            refine Ev.getr (60) dX3_hasTakenAddress_71 fl_X3_15 lx_20 (by decide) rfl rfl ?_
            refine Ev.iload dX3_hasTakenAddress_74 rfl ?_
            refine Ev.iconst dX3_hasTakenAddress_76 ⟨by decide, by decide⟩ ?_
            refine Ev.imul dX3_hasTakenAddress_77 (by unfold ev_in; omega) ?_
            refine Ev.iconst dX3_hasTakenAddress_78 ⟨by decide, by decide⟩ ?_
            refine Ev.iadd dX3_hasTakenAddress_79 (by unfold ev_in; omega) ?_
            refine Ev.iald dX3_hasTakenAddress_80 lx_60 (Or.inl rfl) (by omega) (by omega) ?_
            refine Ev.iload_n dX3_hasTakenAddress_81 rfl ?_
            refine Ev.icmp_ne (tgt := 92) dX3_hasTakenAddress_82 rfl (fun c82 => ?_) (fun c82 => ?_)
            · skip
              refine Ev.iinc4 dX3_hasTakenAddress_92 (by unfold ev_in; omega) ?_
              refine Ev.goto (tgt := 25) dX3_hasTakenAddress_95 rfl ?_
              first | (exfalso; omega) | (refine ih (k + 1) _ _ (by omega) (fun d hd => ?_); rcases (show d < k ∨ d = k by omega) with hdk | rfl <;> first | exact hz d hdk | (unfold tkn; omega))
            · skip
              refine Ev.iload dX3_hasTakenAddress_85 rfl ?_
              refine Ev.if_ne (tgt := 92) dX3_hasTakenAddress_87 rfl (fun c87 => ?_) (fun c87 => ?_)
              · skip
                refine Ev.iinc4 dX3_hasTakenAddress_92 (by unfold ev_in; omega) ?_
                refine Ev.goto (tgt := 25) dX3_hasTakenAddress_95 rfl ?_
                first | (exfalso; omega) | (refine ih (k + 1) _ _ (by omega) (fun d hd => ?_); rcases (show d < k ∨ d = k by omega) with hdk | rfl <;> first | exact hz d hdk | (unfold tkn; omega))
              · skip
                refine Ev.iconst dX3_hasTakenAddress_90 ⟨by decide, by decide⟩ ?_
                refine Ev.bool rfl dX3_hasTakenAddress_91 (by omega) ?_
                first | (exfalso; omega) | exact ⟨Or.inl ⟨rfl, k, by omega, by unfold tkn; omega⟩, rfl⟩
          · skip
            refine Ev.iload dX3_hasTakenAddress_56 rfl ?_
            refine Ev.bipush dX3_hasTakenAddress_58 ⟨by decide, by decide⟩ (by decide) ?_
            refine Ev.icmp_eq (tgt := 67) dX3_hasTakenAddress_60 rfl (fun c60 => ?_) (fun c60 => ?_)
            · skip
              refine Ev.iconst dX3_hasTakenAddress_67 ⟨by decide, by decide⟩ ?_
              refine Ev.istore6 dX3_hasTakenAddress_68 ?_
              refine Ev.aload_n dX3_hasTakenAddress_70 rfl ?_
              refine Ev.getr (60) dX3_hasTakenAddress_71 fl_X3_15 lx_20 (by decide) rfl rfl ?_
              refine Ev.iload dX3_hasTakenAddress_74 rfl ?_
              refine Ev.iconst dX3_hasTakenAddress_76 ⟨by decide, by decide⟩ ?_
              refine Ev.imul dX3_hasTakenAddress_77 (by unfold ev_in; omega) ?_
              refine Ev.iconst dX3_hasTakenAddress_78 ⟨by decide, by decide⟩ ?_
              refine Ev.iadd dX3_hasTakenAddress_79 (by unfold ev_in; omega) ?_
              refine Ev.iald dX3_hasTakenAddress_80 lx_60 (Or.inl rfl) (by omega) (by omega) ?_
              refine Ev.iload_n dX3_hasTakenAddress_81 rfl ?_
              refine Ev.icmp_ne (tgt := 92) dX3_hasTakenAddress_82 rfl (fun c82 => ?_) (fun c82 => ?_)
              · skip
                refine Ev.iinc4 dX3_hasTakenAddress_92 (by unfold ev_in; omega) ?_
                refine Ev.goto (tgt := 25) dX3_hasTakenAddress_95 rfl ?_
                first | (exfalso; omega) | (refine ih (k + 1) _ _ (by omega) (fun d hd => ?_); rcases (show d < k ∨ d = k by omega) with hdk | rfl <;> first | exact hz d hdk | (unfold tkn; omega))
              · skip
                refine Ev.iload dX3_hasTakenAddress_85 rfl ?_
                refine Ev.if_ne (tgt := 92) dX3_hasTakenAddress_87 rfl (fun c87 => ?_) (fun c87 => ?_)
                · skip
                  refine Ev.iinc4 dX3_hasTakenAddress_92 (by unfold ev_in; omega) ?_
                  refine Ev.goto (tgt := 25) dX3_hasTakenAddress_95 rfl ?_
                  first | (exfalso; omega) | (refine ih (k + 1) _ _ (by omega) (fun d hd => ?_); rcases (show d < k ∨ d = k by omega) with hdk | rfl <;> first | exact hz d hdk | (unfold tkn; omega))
                · skip
                  refine Ev.iconst dX3_hasTakenAddress_90 ⟨by decide, by decide⟩ ?_
                  refine Ev.bool rfl dX3_hasTakenAddress_91 (by omega) ?_
                  first | (exfalso; omega) | exact ⟨Or.inl ⟨rfl, k, by omega, by unfold tkn; omega⟩, rfl⟩
            · skip
              refine Ev.iconst dX3_hasTakenAddress_63 ⟨by decide, by decide⟩ ?_
              refine Ev.goto (tgt := 68) dX3_hasTakenAddress_64 rfl ?_
              refine Ev.istore6 dX3_hasTakenAddress_68 ?_
              refine Ev.aload_n dX3_hasTakenAddress_70 rfl ?_
              refine Ev.getr (60) dX3_hasTakenAddress_71 fl_X3_15 lx_20 (by decide) rfl rfl ?_
              refine Ev.iload dX3_hasTakenAddress_74 rfl ?_
              refine Ev.iconst dX3_hasTakenAddress_76 ⟨by decide, by decide⟩ ?_
              refine Ev.imul dX3_hasTakenAddress_77 (by unfold ev_in; omega) ?_
              refine Ev.iconst dX3_hasTakenAddress_78 ⟨by decide, by decide⟩ ?_
              refine Ev.iadd dX3_hasTakenAddress_79 (by unfold ev_in; omega) ?_
              refine Ev.iald dX3_hasTakenAddress_80 lx_60 (Or.inl rfl) (by omega) (by omega) ?_
              refine Ev.iload_n dX3_hasTakenAddress_81 rfl ?_
              refine Ev.icmp_ne (tgt := 92) dX3_hasTakenAddress_82 rfl (fun c82 => ?_) (fun c82 => ?_)
              · skip
                refine Ev.iinc4 dX3_hasTakenAddress_92 (by unfold ev_in; omega) ?_
                refine Ev.goto (tgt := 25) dX3_hasTakenAddress_95 rfl ?_
                first | (exfalso; omega) | (refine ih (k + 1) _ _ (by omega) (fun d hd => ?_); rcases (show d < k ∨ d = k by omega) with hdk | rfl <;> first | exact hz d hdk | (unfold tkn; omega))
              · skip
                refine Ev.iload dX3_hasTakenAddress_85 rfl ?_
                refine Ev.if_ne (tgt := 92) dX3_hasTakenAddress_87 rfl (fun c87 => ?_) (fun c87 => ?_)
                · skip
                  refine Ev.iinc4 dX3_hasTakenAddress_92 (by unfold ev_in; omega) ?_
                  refine Ev.goto (tgt := 25) dX3_hasTakenAddress_95 rfl ?_
                  first | (exfalso; omega) | (refine ih (k + 1) _ _ (by omega) (fun d hd => ?_); rcases (show d < k ∨ d = k by omega) with hdk | rfl <;> first | exact hz d hdk | (unfold tkn; omega))
                · skip
                  refine Ev.iconst dX3_hasTakenAddress_90 ⟨by decide, by decide⟩ ?_
                  refine Ev.bool rfl dX3_hasTakenAddress_91 (by omega) ?_
                  first | (exfalso; omega) | exact ⟨Or.inl ⟨rfl, k, by omega, by unfold tkn; omega⟩, rfl⟩
  refine Ev.aload_n dX3_hasTakenAddress_0 rfl ?_
  refine Ev.getr (60) dX3_hasTakenAddress_1 fl_X3_15 lx_20 (by decide) rfl rfl ?_
  refine Ev.iload_n dX3_hasTakenAddress_4 rfl ?_
  refine Ev.iconst dX3_hasTakenAddress_5 ⟨by decide, by decide⟩ ?_
  refine Ev.imul dX3_hasTakenAddress_6 (by unfold ev_in; omega) ?_
  refine Ev.iconst dX3_hasTakenAddress_7 ⟨by decide, by decide⟩ ?_
  refine Ev.iadd dX3_hasTakenAddress_8 (by unfold ev_in; omega) ?_
  refine Ev.iald dX3_hasTakenAddress_9 lx_60 (Or.inl rfl) (by omega) (by omega) ?_
  refine Ev.istore2 rfl dX3_hasTakenAddress_10 ?_
  refine Ev.aload_n dX3_hasTakenAddress_11 rfl ?_
  refine Ev.getr (60) dX3_hasTakenAddress_12 fl_X3_15 lx_20 (by decide) rfl rfl ?_
  refine Ev.iload_n dX3_hasTakenAddress_15 rfl ?_
  refine Ev.iconst dX3_hasTakenAddress_16 ⟨by decide, by decide⟩ ?_
  refine Ev.imul dX3_hasTakenAddress_17 (by unfold ev_in; omega) ?_
  refine Ev.iconst dX3_hasTakenAddress_18 ⟨by decide, by decide⟩ ?_
  refine Ev.iadd dX3_hasTakenAddress_19 (by unfold ev_in; omega) ?_
  refine Ev.iald dX3_hasTakenAddress_20 lx_60 (Or.inl rfl) (by omega) (by omega) ?_
  refine Ev.istore3 rfl dX3_hasTakenAddress_21 ?_
  refine Ev.iconst dX3_hasTakenAddress_22 ⟨by decide, by decide⟩ ?_
  refine Ev.istore4 dX3_hasTakenAddress_23 ?_
  exact loop n.toNat 0 _ _ (by omega) (fun d hd => absurd hd (by omega))
theorem s_X3_beginsWithHost {σ : ev_M} : Ev jX3_beginsWithHost layX 0 [some (rv 20)] [] σ (fun r σ' => ((r = 1 ∧ 0 < σ 23 ∧ σ 60 = 2) ∨ (r = 0 ∧ ¬ (0 < σ 23 ∧ σ 60 = 2))) ∧ σ' = σ) := by
  refine Ev.aload_n dX3_beginsWithHost_0 rfl ?_
  refine Ev.geti (23) dX3_beginsWithHost_1 fl_X3_23 lx_20 (by decide) rfl rfl ?_
  refine Ev.if_le (tgt := 21) dX3_beginsWithHost_4 rfl (fun c4 => ?_) (fun c4 => ?_)
  · skip
    refine Ev.iconst dX3_beginsWithHost_21 ⟨by decide, by decide⟩ ?_
    refine Ev.bool rfl dX3_beginsWithHost_22 (by omega) ?_
    exact ⟨by omega, rfl⟩
  · skip
    refine Ev.aload_n dX3_beginsWithHost_7 rfl ?_
    refine Ev.getr (60) dX3_beginsWithHost_8 fl_X3_15 lx_20 (by decide) rfl rfl ?_
    refine Ev.iconst dX3_beginsWithHost_11 ⟨by decide, by decide⟩ ?_
    refine Ev.ialdn (60) dX3_beginsWithHost_12 lx_60 (Or.inl rfl) (by decide) (by decide) rfl ?_
    refine Ev.iconst dX3_beginsWithHost_13 ⟨by decide, by decide⟩ ?_
    refine Ev.icmp_ne (tgt := 21) dX3_beginsWithHost_14 rfl (fun c14 => ?_) (fun c14 => ?_)
    · skip
      refine Ev.iconst dX3_beginsWithHost_21 ⟨by decide, by decide⟩ ?_
      refine Ev.bool rfl dX3_beginsWithHost_22 (by omega) ?_
      exact ⟨by omega, rfl⟩
    · skip
      refine Ev.iconst dX3_beginsWithHost_17 ⟨by decide, by decide⟩ ?_
      refine Ev.goto (tgt := 22) dX3_beginsWithHost_18 rfl ?_
      refine Ev.bool rfl dX3_beginsWithHost_22 (by omega) ?_
      exact ⟨by omega, rfl⟩
def XdI (σ : ev_M) (b : Int) (n : Nat) (ρ : ev_M) : Prop := n ≤ 6 ∧ XF σ ρ ∧ XI b ρ ∧ ρ 23 = (n : Int) ∧ (∀ i : Nat, i < n → sp (Lx σ) i < σ 22 ∧ okit (Lx σ) i) ∧ ∀ i j : Nat, i < n → j < 5 → ρ (60 + ((i : Int) * 5 + (j : Int))) = va (Lx σ) i j
def XdQ (σ : ev_M) (b r : Int) (σ' : ev_M) : Prop := XF σ σ' ∧ XI b σ' ∧ ∃ n : Nat, RdP (Lx σ) (σ 22) r n ∧ (r = -4 → XdI σ b n σ')
theorem va_rng {L : Int → Int} {n : Nat} (h : okit L n) : va L n 2 ≤ 31 := by
  have := (h.1.2.1 2 (by decide)).2.2.2
  exact this
theorem s_X3_firstFault {σ : ev_M} {b : Int} (hX : XI b σ) : Ev jX3_firstFault layX 0 [some (rv 20), none, none, none] [] σ (fun r σ' => XdQ σ b r σ') := by
  have h22 := hX.s22
  have loop : ∀ (j n : Nat) (ρ : ev_M) (x3 : Option ev_V), n + j = 6 → XdI σ b n ρ → Ev jX3_firstFault layX 9 [some (rv 20), some (iv (sp (Lx σ) n)), some (iv (n : Int)), x3] [] ρ (fun r σ' => XdQ σ b r σ') := by
    intro j
    induction j with
    | zero =>
      intro n ρ x3 hn hI
      have hn6 : n = 6 := by omega
      subst hn6
      have hI' := hI
      obtain ⟨i0, i1, i2, i3, i4, i5⟩ := hI'
      have e22 : ρ 22 = σ 22 := i1 22 (by decide)
      have hs := sp_rng (L := Lx σ) (len := σ 22) 6 (fun i hi => (i4 i hi).1) h22.1
      refine Ev.iload_n dX3_firstFault_9 rfl ?_
      refine Ev.bipush dX3_firstFault_10 ⟨by decide, by decide⟩ (by decide) ?_
      refine Ev.icmp_ge (tgt := 61) dX3_firstFault_12 rfl (fun c12 => ?_) (fun c12 => ?_)
      · skip
        refine Ev.iload_n dX3_firstFault_61 rfl ?_
        refine Ev.aload_n dX3_firstFault_62 rfl ?_
        refine Ev.geti (22) dX3_firstFault_63 fl_X3_19 lx_20 (by decide) rfl rfl ?_
        refine Ev.icmp_ge (tgt := 73) dX3_firstFault_66 rfl (fun c66 => ?_) (fun c66 => ?_)
        · skip
          refine Ev.bipush dX3_firstFault_73 ⟨by decide, by decide⟩ (by decide) ?_
          refine Ev.int rfl dX3_firstFault_75 ?_
          first | exact ⟨i1, i2, 6, ⟨i0, i4, Or.inl ⟨by omega, rfl⟩⟩, fun _ => hI⟩ | exact ⟨i1, i2, 6, ⟨i0, i4, Or.inr ⟨by omega, Or.inl rfl, rfl⟩⟩, fun z => absurd z (by omega)⟩
        · skip
          refine Ev.iload_n dX3_firstFault_69 rfl ?_
          refine Ev.goto (tgt := 75) dX3_firstFault_70 rfl ?_
          refine Ev.int rfl dX3_firstFault_75 ?_
          first | exact ⟨i1, i2, 6, ⟨i0, i4, Or.inl ⟨by omega, rfl⟩⟩, fun _ => hI⟩ | exact ⟨i1, i2, 6, ⟨i0, i4, Or.inr ⟨by omega, Or.inl rfl, rfl⟩⟩, fun z => absurd z (by omega)⟩
      · skip
        exact absurd c12 (by decide)
    | succ j ih =>
      intro n ρ x3 hn hI
      have hI' := hI
      obtain ⟨i0, i1, i2, i3, i4, i5⟩ := hI'
      have e22 : ρ 22 = σ 22 := i1 22 (by decide)
      have hs := sp_rng (L := Lx σ) (len := σ 22) n (fun i hi => (i4 i hi).1) h22.1
      have hL := i1.L hX
      have he := en_rng (L := Lx σ) (p := sp (Lx σ) n) 5
      refine Ev.iload_n dX3_firstFault_9 rfl ?_
      refine Ev.bipush dX3_firstFault_10 ⟨by decide, by decide⟩ (by decide) ?_
      refine Ev.icmp_ge (tgt := 61) dX3_firstFault_12 rfl (fun c12 => ?_) (fun c12 => ?_)
      · skip
        exact absurd c12 (by omega)
      · skip
        refine Ev.iload_n dX3_firstFault_15 rfl ?_
        refine Ev.aload_n dX3_firstFault_16 rfl ?_
        refine Ev.geti (22) dX3_firstFault_17 fl_X3_19 lx_20 (by decide) rfl rfl ?_
        refine Ev.icmp_ge (tgt := 61) dX3_firstFault_20 rfl (fun c20 => ?_) (fun c20 => ?_)
        · skip
          refine Ev.iload_n dX3_firstFault_61 rfl ?_
          refine Ev.aload_n dX3_firstFault_62 rfl ?_
          refine Ev.geti (22) dX3_firstFault_63 fl_X3_19 lx_20 (by decide) rfl rfl ?_
          refine Ev.icmp_ge (tgt := 73) dX3_firstFault_66 rfl (fun c66 => ?_) (fun c66 => ?_)
          · skip
            refine Ev.bipush dX3_firstFault_73 ⟨by decide, by decide⟩ (by decide) ?_
            refine Ev.int rfl dX3_firstFault_75 ?_
            first | (exfalso; omega) | exact ⟨i1, i2, n, ⟨i0, i4, Or.inl ⟨by omega, rfl⟩⟩, fun _ => hI⟩
          · skip
            refine Ev.iload_n dX3_firstFault_69 rfl ?_
            refine Ev.goto (tgt := 75) dX3_firstFault_70 rfl ?_
            refine Ev.int rfl dX3_firstFault_75 ?_
            first | (exfalso; omega) | exact ⟨i1, i2, n, ⟨i0, i4, Or.inl ⟨by omega, rfl⟩⟩, fun _ => hI⟩
        · skip
          refine Ev.aload_n dX3_firstFault_23 rfl ?_
          refine Ev.iload_n dX3_firstFault_24 rfl ?_
          refine Ev.iload_n dX3_firstFault_25 rfl ?_
          refine Ev.iconst dX3_firstFault_26 ⟨by decide, by decide⟩ ?_
          refine Ev.imul dX3_firstFault_27 (by unfold ev_in; omega) ?_
          refine Ev.Vi2 (I' := jX3_readItem) ml_X3_26 dX3_firstFault_28 cyX3_readItem lx_20 rfl (by decide) ⟨by decide, by decide⟩ (by simp) rfl rfl (s_X3_readItem i2 (by omega) (by omega) (by omega) (by omega)) (fun r σ' hr28 hq => ?_)
          unfold XQ at hq
          rw [hL] at hq
          obtain ⟨q1, q2, q3⟩ := hq
          have qF : XF σ σ' := fun k hk => (q1 k hk).trans (i1 k hk)
          have e22' : σ' 22 = σ 22 := qF 22 (by decide)
          refine Ev.istore3 rfl dX3_firstFault_31 ?_
          refine Ev.iload_n dX3_firstFault_32 rfl ?_
          refine Ev.if_lt (tgt := 44) dX3_firstFault_33 rfl (fun c33 => ?_) (fun c33 => ?_)
          · skip
            refine Ev.iload_n dX3_firstFault_44 rfl ?_
            refine Ev.int rfl dX3_firstFault_45 ?_
            refine ⟨qF, q2, n, ⟨i0, i4, Or.inr ⟨by omega, Or.inr ?_, rfl⟩⟩, fun z => absurd z (by omega)⟩
            first | exact fun z => (by rcases q3 with ⟨q4, -⟩ | ⟨-, q5⟩ <;> first | exact absurd q4 (by omega) | exact q5 z.1) | exact fun z => (by rcases hq1 with ⟨-, d, hd, ht⟩ | ⟨y, -⟩ <;> first | exact (tk d (by omega)).mp ht (z.2 d (by omega)) | exact absurd y c41)
          · skip
            rcases q3 with ⟨q4, q5, q6, q7⟩ | ⟨q4, -⟩
            rotate_left
            · exfalso; omega
            have v1 : σ' (60 + ((n : Int) * 5 + 1)) = va (Lx σ) n 1 := q6 1 (by decide)
            have v2 : σ' (60 + ((n : Int) * 5 + 2)) = va (Lx σ) n 2 := q6 2 (by decide)
            have old : ∀ d f : Nat, d < n → f < 5 → σ' (60 + ((d : Int) * 5 + (f : Int))) = va (Lx σ) d f := fun d f hd hf => by rw [q7 _ (by omega)]; exact i5 d f hd hf
            have r2 : va (Lx σ) n 2 ≤ 31 := by have := (q5.2.1 2 (by decide)).2.2.2; exact this
            have tk : ∀ d : Nat, d < n → (tkn σ' (n : Int) (d : Int) ↔ ¬ apt (Lx σ) d n) := by
              intro d hd
              have o1 : σ' (60 + ((d : Int) * 5 + 1)) = va (Lx σ) d 1 := old d 1 hd (by decide)
              have o2 : σ' (60 + ((d : Int) * 5 + 2)) = va (Lx σ) d 2 := old d 2 hd (by decide)
              have rd := va_rng (i4 d hd).2
              unfold tkn apt
              rw [v1, v2, o1, o2]
              omega
            refine Ev.aload_n dX3_firstFault_36 rfl ?_
            refine Ev.iload_n dX3_firstFault_37 rfl ?_
            refine Ev.Vi1 (I' := jX3_hasTakenAddress) ml_X3_30 dX3_firstFault_38 cyX3_hasTakenAddress lx_20 rfl (by decide) ⟨by decide, by decide⟩ (by simp) rfl rfl (s_X3_hasTakenAddress (by omega) (by omega)) (fun r σ' hr38 hq => ?_)
            obtain ⟨hq1, hq⟩ := hq
            replace hq := hq.symm
            subst hq
            refine Ev.if_eq (tgt := 46) dX3_firstFault_41 rfl (fun c41 => ?_) (fun c41 => ?_)
            · skip
              refine Ev.iload_n dX3_firstFault_46 rfl ?_
              refine Ev.istore1 rfl dX3_firstFault_47 ?_
              refine Ev.aload_n dX3_firstFault_48 rfl ?_
              refine Ev.iload_n dX3_firstFault_49 rfl ?_
              refine Ev.iconst dX3_firstFault_50 ⟨by decide, by decide⟩ ?_
              refine Ev.iadd dX3_firstFault_51 (by unfold ev_in; omega) ?_
              refine Ev.puti (23) dX3_firstFault_52 fl_X3_23 ft_3_3 lx_20 (by decide) rfl rfl ?_
              refine Ev.iinc2 dX3_firstFault_55 (by unfold ev_in; omega) ?_
              refine Ev.goto (tgt := 9) dX3_firstFault_58 rfl ?_
              rw [q4]
              refine ih (n + 1) _ _ (by omega) ⟨by omega, qF.up (Or.inl rfl), q2.t23 (by omega) (by omega), by rw [ev_up_eq]; omega, ?_, ?_⟩
              · intro i hi
                by_cases hin : i = n
                · subst hin
                  refine ⟨by omega, q5, fun d hd => ?_⟩
                  rcases hq1 with ⟨z, -⟩ | ⟨-, z⟩
                  · exact absurd z (by omega)
                  · exact Classical.byContradiction (fun y => z d (by omega) ((tk d hd).mpr y))
                · exact i4 i (by omega)
              · intro i f hi hf
                rw [ev_up_ne (by omega)]
                by_cases hin : i = n
                · subst hin; exact q6 f hf
                · exact old i f (by omega) hf
            · skip
              refine Ev.iload_n dX3_firstFault_44 rfl ?_
              refine Ev.int rfl dX3_firstFault_45 ?_
              refine ⟨qF, q2, n, ⟨i0, i4, Or.inr ⟨by omega, Or.inr ?_, rfl⟩⟩, fun z => absurd z (by omega)⟩
              first | exact fun z => (by rcases q3 with ⟨q4, -⟩ | ⟨-, q5⟩ <;> first | exact absurd q4 (by omega) | exact q5 z.1) | exact fun z => (by rcases hq1 with ⟨-, d, hd, ht⟩ | ⟨y, -⟩ <;> first | exact (tk d (by omega)).mp ht (z.2 d (by omega)) | exact absurd y c41)
  refine Ev.aload_n dX3_firstFault_0 rfl ?_
  refine Ev.iconst dX3_firstFault_1 ⟨by decide, by decide⟩ ?_
  refine Ev.puti (23) dX3_firstFault_2 fl_X3_23 ft_3_3 lx_20 (by decide) rfl rfl ?_
  refine Ev.iconst dX3_firstFault_5 ⟨by decide, by decide⟩ ?_
  refine Ev.istore1 rfl dX3_firstFault_6 ?_
  refine Ev.iconst dX3_firstFault_7 ⟨by decide, by decide⟩ ?_
  refine Ev.istore2 rfl dX3_firstFault_8 ?_
  exact loop 6 0 _ _ (by decide) ⟨by decide, XF.rf.up (Or.inl rfl), hX.t23 (by decide) (by decide), ev_up_eq, fun i hi => absurd hi (by omega), fun i j hi hj => absurd hi (by omega)⟩
theorem s_X4_fault {σ : ev_M} {b : Int} (hX : XI b σ) : Ev jX4_fault layX 0 [some (rv 0)] [] σ (fun r σ' => XdQ σ b r σ') := by
  refine Ev.aload_n dX4_fault_0 rfl ?_
  refine Ev.getr (20) dX4_fault_1 fl_X4_10 lx_0 (by decide) rfl rfl ?_
  refine Ev.Vi0 (I' := jX3_firstFault) ml_X4_49 dX4_fault_4 cyX3_firstFault lx_20 rfl (by decide) ⟨by decide, by decide⟩ (by simp) rfl rfl (s_X3_firstFault hX) (fun r σ' hr4 hq => ?_)
  skip
  refine Ev.int rfl dX4_fault_7 ?_
  exact hq
def x_bg (a : Int) (i : Int) (σ : ev_M) : ev_M := x_begin i a (i * 5) σ
theorem x_bg_o {a i n : Int} {σ : ev_M} (h0 : 0 ≤ i) (h1 : i < 6) (hn : n < 1000) : x_bg a i σ n = σ n := by
  unfold x_bg x_begin x_clear
  simp (disch := omega) only [ev_up_ne]
def szx (k : Int) (σ : ev_M) : ev_M := fun n => if 40 ≤ n ∧ n < 40 + k then 0 else σ n
theorem szx_s {k : Int} {τ : ev_M} (h0 : 0 ≤ k) : ev_up (szx k τ) (40 + k) 0 = szx (k + 1) τ := by
  funext n
  by_cases hn : n = 40 + k
  · rw [ev_up_eqs hn]; unfold szx; rw [if_pos (by omega)]
  · rw [ev_up_ne hn]
    unfold szx
    by_cases a : 40 ≤ n ∧ n < 40 + k
    · rw [if_pos a, if_pos (by omega)]
    · rw [if_neg a, if_neg (by omega)]
def x_bw1 (a n : Int) (σ : ev_M) : ev_M := ev_up (ev_up (it (x_bg a) (ev_up σ 4 n) n.toNat) 33 0) 34 0
def x_bw (a n : Int) (σ : ev_M) : ev_M := ev_up (ev_up (ev_up (ev_up (ev_up (szx 8 (x_bw1 a n σ)) 5 0) 6 0) 7 (-4)) 8 (-4)) 9 0
theorem s_X4_beginWith {a n : Int} {σ : ev_M} {kd aux : Nat} (hm : (a, 30, kd, aux) ∈ layX) (hkd : kd = 1 ∨ kd = 4) (ha : a = 60 ∨ a = 520) (hn0 : 0 ≤ n) (hn : n ≤ 6) : Ev jX4_beginWith layX 0 [some (rv 0), some (rv a), some (iv n), none] [] σ (fun _ σ' => σ' = x_bw a n σ) := by
  have sl : ∀ (j k : Nat) (ρ : ev_M), k + j = 8 → ρ = szx (k : Int) (x_bw1 a n σ) → Ev jX4_beginWith layX 43 [some (rv 0), some (rv a), some (iv n), some (iv (k : Int))] [] ρ (fun _ σ' => σ' = x_bw a n σ) := by
    intro j
    induction j with
    | zero =>
      intro k ρ hk hρ
      have hk8 : k = 8 := by omega
      subst hk8
      refine Ev.iload_n dX4_beginWith_43 rfl ?_
      refine Ev.bipush dX4_beginWith_44 ⟨by decide, by decide⟩ (by decide) ?_
      refine Ev.icmp_ge (tgt := 62) dX4_beginWith_46 rfl (fun c46 => ?_) (fun c46 => ?_)
      · skip
        refine Ev.aload_n dX4_beginWith_62 rfl ?_
        refine Ev.iconst dX4_beginWith_63 ⟨by decide, by decide⟩ ?_
        refine Ev.puti (5) dX4_beginWith_64 fl_X4_70 ft_4_5 lx_0 (by decide) rfl rfl ?_
        refine Ev.aload_n dX4_beginWith_67 rfl ?_
        refine Ev.iconst dX4_beginWith_68 ⟨by decide, by decide⟩ ?_
        refine Ev.puti (6) dX4_beginWith_69 fl_X4_79 ft_4_6 lx_0 (by decide) rfl rfl ?_
        refine Ev.aload_n dX4_beginWith_72 rfl ?_
        refine Ev.bipush dX4_beginWith_73 ⟨by decide, by decide⟩ (by decide) ?_
        refine Ev.puti (7) dX4_beginWith_75 fl_X4_89 ft_4_7 lx_0 (by decide) rfl rfl ?_
        refine Ev.aload_n dX4_beginWith_78 rfl ?_
        refine Ev.bipush dX4_beginWith_79 ⟨by decide, by decide⟩ (by decide) ?_
        refine Ev.puti (8) dX4_beginWith_81 fl_X4_183 ft_4_8 lx_0 (by decide) rfl rfl ?_
        refine Ev.aload_n dX4_beginWith_84 rfl ?_
        refine Ev.iconst dX4_beginWith_85 ⟨by decide, by decide⟩ ?_
        refine Ev.putz (9) dX4_beginWith_86 fl_X4_98 ft_4_9 lx_0 (by decide) rfl rfl (by omega) ?_
        refine Ev.vret dX4_beginWith_89 rfl ?_
        rw [hρ]
        rfl
      · skip
        exact absurd c46 (by decide)
    | succ j ih =>
      intro k ρ hk hρ
      refine Ev.iload_n dX4_beginWith_43 rfl ?_
      refine Ev.bipush dX4_beginWith_44 ⟨by decide, by decide⟩ (by decide) ?_
      refine Ev.icmp_ge (tgt := 62) dX4_beginWith_46 rfl (fun c46 => ?_) (fun c46 => ?_)
      · skip
        exact absurd c46 (by omega)
      · skip
        refine Ev.aload_n dX4_beginWith_49 rfl ?_
        refine Ev.getr (40) dX4_beginWith_50 fl_X4_30 lx_0 (by decide) rfl rfl ?_
        refine Ev.iload_n dX4_beginWith_53 rfl ?_
        refine Ev.iconst dX4_beginWith_54 ⟨by decide, by decide⟩ ?_
        refine Ev.iast dX4_beginWith_55 lx_40 (by omega) (by omega) ?_
        refine Ev.iinc3 dX4_beginWith_56 (by unfold ev_in; omega) ?_
        refine Ev.goto (tgt := 43) dX4_beginWith_59 rfl ?_
        refine ih (k + 1) _ (by omega) ?_
        rw [hρ]
        exact szx_s (by omega)
  have dl : ∀ (j k : Nat) (ρ : ev_M), (k : Int) + j = n → ρ = it (x_bg a) (ev_up σ 4 n) k → Ev jX4_beginWith layX 7 [some (rv 0), some (rv a), some (iv n), some (iv (k : Int))] [] ρ (fun _ σ' => σ' = x_bw a n σ) := by
    intro j
    induction j with
    | zero =>
      intro k ρ hk hρ
      have e4 : ρ 4 = n := by rw [hρ, it_at' k (fun i σ hi => x_bg_o (by omega) (by omega) (by decide)), ev_up_eq]
      refine Ev.iload_n dX4_beginWith_7 rfl ?_
      refine Ev.aload_n dX4_beginWith_8 rfl ?_
      refine Ev.geti (4) dX4_beginWith_9 fl_X4_63 lx_0 (by decide) rfl rfl ?_
      refine Ev.icmp_ge (tgt := 34) dX4_beginWith_12 rfl (fun c12 => ?_) (fun c12 => ?_)
      · skip
        refine Ev.aload_n dX4_beginWith_34 rfl ?_
        refine Ev.getr (30) dX4_beginWith_35 fl_X4_26 lx_0 (by decide) rfl rfl ?_
        refine Ev.Vv0 (I' := jX1_empty) ml_X4_181 dX4_beginWith_38 cyX1_empty lx_30 rfl (by decide) ⟨by decide, by decide⟩ (by simp) rfl rfl (s_X1_empty) (fun σ' hq => ?_)
        subst hq
        refine Ev.iconst dX4_beginWith_41 ⟨by decide, by decide⟩ ?_
        refine Ev.istore3 rfl dX4_beginWith_42 ?_
        refine sl 8 0 _ (by decide) ?_
        rw [hρ]
        funext m
        unfold szx
        rw [if_neg (by omega)]
        unfold x_bw1
        rw [show n.toNat = k by omega]
      · skip
        exact absurd c12 (by omega)
    | succ j ih =>
      intro k ρ hk hρ
      have e4 : ρ 4 = n := by rw [hρ, it_at' k (fun i σ hi => x_bg_o (by omega) (by omega) (by decide)), ev_up_eq]
      refine Ev.iload_n dX4_beginWith_7 rfl ?_
      refine Ev.aload_n dX4_beginWith_8 rfl ?_
      refine Ev.geti (4) dX4_beginWith_9 fl_X4_63 lx_0 (by decide) rfl rfl ?_
      refine Ev.icmp_ge (tgt := 34) dX4_beginWith_12 rfl (fun c12 => ?_) (fun c12 => ?_)
      · skip
        exact absurd c12 (by omega)
      · skip
        refine Ev.aload_n dX4_beginWith_15 rfl ?_
        refine Ev.getr (50) dX4_beginWith_16 fl_X4_18 lx_0 (by decide) rfl rfl ?_
        refine Ev.iload_n dX4_beginWith_19 rfl ?_
        refine Ev.aald dX4_beginWith_20 lx_50 (by omega) (by omega) ?_
        refine Ev.aload_n dX4_beginWith_21 rfl ?_
        refine Ev.iload_n dX4_beginWith_22 rfl ?_
        refine Ev.iconst dX4_beginWith_23 ⟨by decide, by decide⟩ ?_
        refine Ev.imul dX4_beginWith_24 (by unfold ev_in; omega) ?_
        refine Ev.Vv2 (I' := jX2_begin) ml_X4_178 dX4_beginWith_25 cyX2_begin (lx_dev (by omega) (by omega)) rfl (by decide) ⟨by decide, by decide⟩ (by simp) rfl rfl (s_X2_begin (by omega) (by omega) hm hkd ha (by omega) (by omega)) (fun σ' hq => ?_)
        subst hq
        refine Ev.iinc3 dX4_beginWith_28 (by unfold ev_in; omega) ?_
        refine Ev.goto (tgt := 7) dX4_beginWith_31 rfl ?_
        refine ih (k + 1) _ (by omega) ?_
        rw [show it (x_bg a) (ev_up σ 4 n) (k + 1) = x_bg a (k : Int) (it (x_bg a) (ev_up σ 4 n) k) from rfl, ← hρ]
        rfl
  refine Ev.aload_n dX4_beginWith_0 rfl ?_
  refine Ev.iload_n dX4_beginWith_1 rfl ?_
  refine Ev.puti (4) dX4_beginWith_2 fl_X4_63 ft_4_4 lx_0 (by decide) rfl rfl ?_
  refine Ev.iconst dX4_beginWith_5 ⟨by decide, by decide⟩ ?_
  refine Ev.istore3 rfl dX4_beginWith_6 ?_
  exact dl n.toNat 0 _ (by omega) rfl
def XlQ (σ : ev_M) (b r : Int) (σ' : ev_M) : Prop := ∃ (q : Int) (ρ : ev_M), XdQ σ b q ρ ∧ ((r = -2 ∧ σ' = ρ ∧ ¬ (q = -4 ∧ 0 < ρ 23 ∧ ρ 60 = 2)) ∨ (q = -4 ∧ 0 < ρ 23 ∧ ρ 60 = 2 ∧ σ' = x_bw 60 (ρ 23) ρ ∧ r = x_bw 60 (ρ 23) ρ 4))
theorem s_X4_lay {σ : ev_M} {b : Int} (hX : XI b σ) : Ev jX4_lay layX 0 [some (rv 0)] [] σ (fun r σ' => XlQ σ b r σ') := by
  refine Ev.aload_n dX4_lay_0 rfl ?_
  refine Ev.getr (20) dX4_lay_1 fl_X4_10 lx_0 (by decide) rfl rfl ?_
  refine Ev.Vi0 (I' := jX3_firstFault) ml_X4_49 dX4_lay_4 cyX3_firstFault lx_20 rfl (by decide) ⟨by decide, by decide⟩ (by simp) rfl rfl (s_X3_firstFault hX) (fun r σ' hr4 hq => ?_)
  have hR := hq
  clear hq
  generalize hρ : σ' = ρ at *
  generalize hrr : r = q at *
  refine Ev.bipush dX4_lay_7 ⟨by decide, by decide⟩ (by decide) ?_
  refine Ev.icmp_ne (tgt := 22) dX4_lay_9 rfl (fun c9 => ?_) (fun c9 => ?_)
  · skip
    refine Ev.bipush dX4_lay_22 ⟨by decide, by decide⟩ (by decide) ?_
    refine Ev.int rfl dX4_lay_24 ?_
    exact ⟨q, ρ, hR, Or.inl ⟨rfl, rfl, by omega⟩⟩
  · skip
    refine Ev.aload_n dX4_lay_12 rfl ?_
    refine Ev.getr (20) dX4_lay_13 fl_X4_10 lx_0 (by decide) rfl rfl ?_
    refine Ev.Vi0 (I' := jX3_beginsWithHost) ml_X4_52 dX4_lay_16 cyX3_beginsWithHost lx_20 rfl (by decide) ⟨by decide, by decide⟩ (by simp) rfl rfl (s_X3_beginsWithHost) (fun r σ' hr16 hq => ?_)
    obtain ⟨hq1, hq⟩ := hq
    replace hq := hq.symm
    subst hq
    refine Ev.if_ne (tgt := 25) dX4_lay_19 rfl (fun c19 => ?_) (fun c19 => ?_)
    · skip
      refine Ev.aload_n dX4_lay_25 rfl ?_
      refine Ev.aload_n dX4_lay_26 rfl ?_
      refine Ev.getr (20) dX4_lay_27 fl_X4_10 lx_0 (by decide) rfl rfl ?_
      refine Ev.getr (60) dX4_lay_30 fl_X4_56 lx_20 (by decide) rfl rfl ?_
      refine Ev.aload_n dX4_lay_33 rfl ?_
      refine Ev.getr (20) dX4_lay_34 fl_X4_10 lx_0 (by decide) rfl rfl ?_
      refine Ev.geti (23) dX4_lay_37 fl_X4_59 lx_20 (by decide) rfl rfl ?_
      refine Ev.Vv2 (I' := jX4_beginWith) ml_X4_37 dX4_lay_40 cyX4_beginWith lx_0 rfl (by decide) ⟨by decide, by decide⟩ (by simp) rfl rfl (s_X4_beginWith lx_60 (Or.inl rfl) (Or.inl rfl) (hR.2.1.s23).1 (hR.2.1.s23).2) (fun σ' hq => ?_)
      subst hq
      refine Ev.aload_n dX4_lay_43 rfl ?_
      refine Ev.geti (4) dX4_lay_44 fl_X4_63 lx_0 (by decide) rfl rfl ?_
      refine Ev.int rfl dX4_lay_47 ?_
      exact ⟨q, ρ, hR, Or.inr ⟨by omega, by omega, by omega, rfl, rfl⟩⟩
    · skip
      refine Ev.bipush dX4_lay_22 ⟨by decide, by decide⟩ (by decide) ?_
      refine Ev.int rfl dX4_lay_24 ?_
      exact ⟨q, ρ, hR, Or.inl ⟨rfl, rfl, by omega⟩⟩
