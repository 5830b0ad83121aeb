/-! the reference: the text read, laid -/
theorem ite_01 {c : Prop} {i : Decidable c} {r : Int} (h : r = @ite Int c i 1 0) : (r = 1 ∧ c) ∨ (r = 0 ∧ ¬ c) := by
  rw [h]
  split
  · next a => exact Or.inl ⟨rfl, a⟩
  · next a => exact Or.inr ⟨rfl, a⟩
theorem t_ri_num {σ : ev_M} {p b : Int} (hM : MI b σ) (h6 : σ 15 ≠ 6) (hp : 0 ≤ p) (hp2 : p ≤ 300) (hd : Lm σ p = 100) : ∀ (j k : Nat) (ρ : ev_M), k + j = 5 → RI σ p b k ρ → Ev jX5_readsItem layM 35 [some (rv 0), some (iv p), some (iv (5 * σ 15)), some (iv (k : Int)), none, none] [] ρ (fun r σ' => RQ σ p b r σ') := by
  have h15 := hM.s15
  intro j
  induction j with
  | zero =>
    intro k ρ hk hR
    have hk5 : k = 5 := by omega
    subst hk5
    have hR' := hR
    obtain ⟨r1, r2, r3, r4, r5, r6, r7⟩ := hR'
    have l0 := r2.s0
    have e5 := en_rng (L := Lm σ) (p := p) 5
    have hL := r1.L hM (en (Lm σ) p 5) (by omega)
    refine Ev.iload_n dX5_readsItem_35 rfl ?_
    refine Ev.iconst dX5_readsItem_36 ⟨by decide, by decide⟩ ?_
    refine Ev.icmp_ge (tgt := 104) dX5_readsItem_37 rfl (fun c37 => ?_) (fun c37 => ?_)
    · skip
      refine Ev.aload_n dX5_readsItem_104 rfl ?_
      refine Ev.aload_n dX5_readsItem_105 rfl ?_
      refine Ev.geti (18) dX5_readsItem_106 fl_X5_79 lm_0 (by decide) rfl rfl ?_
      rw [r4]
      refine Ev.Vi1 (I' := jX5_letterAt) ml_X5_75 dX5_readsItem_109 cyX5_letterAt lm_0 rfl (by decide) ⟨by decide, by decide⟩ (by simp) rfl rfl (s_X5_letterAt' (by omega) (by omega)) (fun r σ' hr109 hq => ?_)
      obtain ⟨rfl, hq⟩ := hq
      replace hq := hq.symm
      subst hq
      refine Ev.bipush dX5_readsItem_112 ⟨by decide, by decide⟩ (by decide) ?_
      refine Ev.icmp_ne (tgt := 121) dX5_readsItem_114 rfl (fun c114 => ?_) (fun c114 => ?_)
      · skip
        refine Ev.iconst dX5_readsItem_121 ⟨by decide, by decide⟩ ?_
        refine Ev.istore3 rfl dX5_readsItem_122 ?_
        refine Ev.iconst dX5_readsItem_123 ⟨by decide, by decide⟩ ?_
        refine Ev.istore4 dX5_readsItem_124 ?_
        exact t_ri_ap hM h6 hd hR (σ 15).toNat 0 _ _ (by omega) (by first | (left; exact ⟨rfl, by omega, fun d d0 d1 => absurd d1 (by omega)⟩) | (right; exact ⟨rfl, fun z => absurd z.1 (by omega)⟩))
      · skip
        refine Ev.iconst dX5_readsItem_117 ⟨by decide, by decide⟩ ?_
        refine Ev.goto (tgt := 122) dX5_readsItem_118 rfl ?_
        refine Ev.istore3 rfl dX5_readsItem_122 ?_
        refine Ev.iconst dX5_readsItem_123 ⟨by decide, by decide⟩ ?_
        refine Ev.istore4 dX5_readsItem_124 ?_
        exact t_ri_ap hM h6 hd hR (σ 15).toNat 0 _ _ (by omega) (by first | (left; exact ⟨rfl, by omega, fun d d0 d1 => absurd d1 (by omega)⟩) | (right; exact ⟨rfl, fun z => absurd z.1 (by omega)⟩))
    · skip
      exact absurd c37 (by decide)
  | succ j ih =>
    intro k ρ hk hR
    have hR' := hR
    obtain ⟨r1, r2, r3, r4, r5, r6, r7⟩ := hR'
    have l0 := r2.s0
    have ek := en_rng (L := Lm σ) (p := p) k
    have hL := r1.L hM (en (Lm σ) p k) (by omega)
    have hLf := nf_c (p := en (Lm σ) p k + 1) (r1.L hM) (by omega)
    have hLv := nv_c (p := en (Lm σ) p k + 1) (r1.L hM) (by omega)
    have fr := nf_rng (L := Lm σ) (p := en (Lm σ) p k + 1)
    have vr := nv_rng (L := Lm σ) (p := en (Lm σ) p k + 1)
    have bad : ¬ nok (Lm σ) p k → ∀ ρ' : ev_M, RF σ ρ' → MI b ρ' → RQ σ p b 0 ρ' := fun hn ρ' q1 q2 => ⟨q1, q2, Or.inr ⟨rfl, Or.inr (Or.inl (fun z => hn (z.2.1 k (by omega))))⟩⟩
    have good : nok (Lm σ) p k → ∀ ρ' : ev_M, ρ' = ev_up (ev_up (ev_up ρ 17 (nv (Lm σ) (en (Lm σ) p k + 1))) 18 (en (Lm σ) p k + 1 + nf (Lm σ) (en (Lm σ) p k + 1))) (640 + (5 * σ 15 + (k : Int))) (nv (Lm σ) (en (Lm σ) p k + 1)) → RI σ p b (k + 1) ρ' := by
      intro hn ρ' e
      subst e
      refine ⟨((r1.up (Or.inr (Or.inl rfl))).up (Or.inr (Or.inr (Or.inl rfl)))).up (Or.inr (Or.inr (Or.inr (by omega)))), ((r2.t17 (by omega) (by omega)).t18 (by omega) (by omega)).urd (by omega) (by omega) (by omega) (by omega), ?_, ?_, ?_, ?_, ?_⟩
      · rw [ev_up_ne (by omega), ev_up_ne (by decide), ev_up_ne (by decide), r3]
      · rw [ev_up_ne (by omega), ev_up_eq]; rfl
      · intro i hi
        by_cases hik : i = k
        · rw [hik]; exact hn
        · exact r5 i (by omega)
      · intro i hi
        by_cases hik : i = k
        · subst hik; rw [ev_up_eq]; rfl
        · rw [ev_up_ne (by omega), ev_up_ne (by omega), ev_up_ne (by omega), r6 i (by omega)]
      · intro m m0 m1
        rw [ev_up_ne (by omega), ev_up_ne (by omega), ev_up_ne (by omega), r7 m m0 m1]
    refine Ev.iload_n dX5_readsItem_35 rfl ?_
    refine Ev.iconst dX5_readsItem_36 ⟨by decide, by decide⟩ ?_
    refine Ev.icmp_ge (tgt := 104) dX5_readsItem_37 rfl (fun c37 => ?_) (fun c37 => ?_)
    · skip
      exact absurd c37 (by omega)
    · skip
      refine Ev.iload_n dX5_readsItem_40 rfl ?_
      refine Ev.if_le (tgt := 57) dX5_readsItem_41 rfl (fun c41 => ?_) (fun c41 => ?_)
      · skip
        refine Ev.aload_n dX5_readsItem_57 rfl ?_
        refine Ev.aload_n dX5_readsItem_58 rfl ?_
        refine Ev.geti (18) dX5_readsItem_59 fl_X5_79 lm_0 (by decide) rfl rfl ?_
        rw [r4]
        refine Ev.iconst dX5_readsItem_62 ⟨by decide, by decide⟩ ?_
        refine Ev.iadd dX5_readsItem_63 (by unfold ev_in; omega) ?_
        refine Ev.iload_n dX5_readsItem_64 rfl ?_
        refine Ev.iconst dX5_readsItem_65 ⟨by decide, by decide⟩ ?_
        refine Ev.icmp_ne (tgt := 73) dX5_readsItem_66 rfl (fun c66 => ?_) (fun c66 => ?_)
        · skip
          refine Ev.iconst dX5_readsItem_73 ⟨by decide, by decide⟩ ?_
          refine Ev.iload_n dX5_readsItem_74 rfl ?_
          refine Ev.Si1 (I' := jX5_highest) ml_X5_86 dX5_readsItem_75 cyX5_highest (by decide) ⟨by decide, by decide⟩ (by simp) rfl rfl (s_X5_highest') (fun r σ' hr75 hq => ?_)
          obtain ⟨rfl, hq⟩ := hq
          replace hq := hq.symm
          subst hq
          refine Ev.Vi3 (I' := jX5_number) ml_X5_89 dX5_readsItem_78 cyX5_number lm_0 rfl (by decide) ⟨by decide, by decide⟩ (by simp) rfl rfl (s_X5_number r2 (by omega) (by omega)) (fun r σ' hr78 hq => ?_)
          rw [hLf, hLv] at hq
          obtain ⟨hq1, hq⟩ := hq
          subst hq
          have hq2 := ite_01 hq1
          clear hq1
          refine Ev.if_ne (tgt := 86) dX5_readsItem_81 rfl (fun c81 => ?_) (fun c81 => ?_)
          · skip
            refine Ev.aload_n dX5_readsItem_86 rfl ?_
            refine Ev.getr (640) dX5_readsItem_87 fl_X5_31 lm_0 (by decide) rfl rfl ?_
            refine Ev.iload_n dX5_readsItem_90 rfl ?_
            refine Ev.iload_n dX5_readsItem_91 rfl ?_
            refine Ev.iadd dX5_readsItem_92 (by unfold ev_in; omega) ?_
            refine Ev.aload_n dX5_readsItem_93 rfl ?_
            refine Ev.geti (17) dX5_readsItem_94 fl_X5_72 lm_0 (by decide) rfl rfl ?_
            try simp (disch := omega) only [ev_up_ne, ev_up_eqs]
            refine Ev.iast dX5_readsItem_97 lm_640 (by omega) (by omega) ?_
            refine Ev.iinc3 dX5_readsItem_98 (by unfold ev_in; omega) ?_
            refine Ev.goto (tgt := 35) dX5_readsItem_101 rfl ?_
            first | (exfalso; omega) | (refine ih (k + 1) _ (by omega) (good ?_ _ rfl); refine ⟨by omega, ?_⟩; unfold vl; (first | rw [if_pos (by omega)] | rw [if_neg (by omega)]); omega)
          · skip
            refine Ev.iconst dX5_readsItem_84 ⟨by decide, by decide⟩ ?_
            refine Ev.bool rfl dX5_readsItem_85 (by omega) ?_
            first | (exfalso; omega) | exact bad (fun z => by have := z.1; omega) _ r1 r2 | (refine bad (fun z => ?_) _ ((r1.up (Or.inr (Or.inl rfl))).up (Or.inr (Or.inr (Or.inl rfl)))) ((r2.t17 (by omega) (by omega)).t18 (by omega) (by omega)); have z2 := z.2; unfold vl at z2; (first | rw [if_pos (by omega)] at z2 | rw [if_neg (by omega)] at z2); omega)
        · skip
          refine Ev.iconst dX5_readsItem_69 ⟨by decide, by decide⟩ ?_
          refine Ev.goto (tgt := 74) dX5_readsItem_70 rfl ?_
          refine Ev.iload_n dX5_readsItem_74 rfl ?_
          refine Ev.Si1 (I' := jX5_highest) ml_X5_86 dX5_readsItem_75 cyX5_highest (by decide) ⟨by decide, by decide⟩ (by simp) rfl rfl (s_X5_highest') (fun r σ' hr75 hq => ?_)
          obtain ⟨rfl, hq⟩ := hq
          replace hq := hq.symm
          subst hq
          refine Ev.Vi3 (I' := jX5_number) ml_X5_89 dX5_readsItem_78 cyX5_number lm_0 rfl (by decide) ⟨by decide, by decide⟩ (by simp) rfl rfl (s_X5_number r2 (by omega) (by omega)) (fun r σ' hr78 hq => ?_)
          rw [hLf, hLv] at hq
          obtain ⟨hq1, hq⟩ := hq
          subst hq
          have hq2 := ite_01 hq1
          clear hq1
          refine Ev.if_ne (tgt := 86) dX5_readsItem_81 rfl (fun c81 => ?_) (fun c81 => ?_)
          · skip
            refine Ev.aload_n dX5_readsItem_86 rfl ?_
            refine Ev.getr (640) dX5_readsItem_87 fl_X5_31 lm_0 (by decide) rfl rfl ?_
            refine Ev.iload_n dX5_readsItem_90 rfl ?_
            refine Ev.iload_n dX5_readsItem_91 rfl ?_
            refine Ev.iadd dX5_readsItem_92 (by unfold ev_in; omega) ?_
            refine Ev.aload_n dX5_readsItem_93 rfl ?_
            refine Ev.geti (17) dX5_readsItem_94 fl_X5_72 lm_0 (by decide) rfl rfl ?_
            try simp (disch := omega) only [ev_up_ne, ev_up_eqs]
            refine Ev.iast dX5_readsItem_97 lm_640 (by omega) (by omega) ?_
            refine Ev.iinc3 dX5_readsItem_98 (by unfold ev_in; omega) ?_
            refine Ev.goto (tgt := 35) dX5_readsItem_101 rfl ?_
            first | (exfalso; omega) | (refine ih (k + 1) _ (by omega) (good ?_ _ rfl); refine ⟨by omega, ?_⟩; unfold vl; (first | rw [if_pos (by omega)] | rw [if_neg (by omega)]); omega)
          · skip
            refine Ev.iconst dX5_readsItem_84 ⟨by decide, by decide⟩ ?_
            refine Ev.bool rfl dX5_readsItem_85 (by omega) ?_
            first | (exfalso; omega) | exact bad (fun z => by have := z.1; omega) _ r1 r2 | (refine bad (fun z => ?_) _ ((r1.up (Or.inr (Or.inl rfl))).up (Or.inr (Or.inr (Or.inl rfl)))) ((r2.t17 (by omega) (by omega)).t18 (by omega) (by omega)); have z2 := z.2; unfold vl at z2; (first | rw [if_pos (by omega)] at z2 | rw [if_neg (by omega)] at z2); omega)
      · skip
        refine Ev.aload_n dX5_readsItem_44 rfl ?_
        refine Ev.aload_n dX5_readsItem_45 rfl ?_
        refine Ev.geti (18) dX5_readsItem_46 fl_X5_79 lm_0 (by decide) rfl rfl ?_
        rw [r4]
        refine Ev.Vi1 (I' := jX5_letterAt) ml_X5_75 dX5_readsItem_49 cyX5_letterAt lm_0 rfl (by decide) ⟨by decide, by decide⟩ (by simp) rfl rfl (s_X5_letterAt' (by omega) (by omega)) (fun r σ' hr49 hq => ?_)
        obtain ⟨rfl, hq⟩ := hq
        replace hq := hq.symm
        subst hq
        refine Ev.bipush dX5_readsItem_52 ⟨by decide, by decide⟩ (by decide) ?_
        refine Ev.icmp_ne (tgt := 84) dX5_readsItem_54 rfl (fun c54 => ?_) (fun c54 => ?_)
        · skip
          refine Ev.iconst dX5_readsItem_84 ⟨by decide, by decide⟩ ?_
          refine Ev.bool rfl dX5_readsItem_85 (by omega) ?_
          first | (exfalso; omega) | exact bad (fun z => by have := z.1; omega) _ r1 r2 | (refine bad (fun z => ?_) _ ((r1.up (Or.inr (Or.inl rfl))).up (Or.inr (Or.inr (Or.inl rfl)))) ((r2.t17 (by omega) (by omega)).t18 (by omega) (by omega)); have z2 := z.2; unfold vl at z2; (first | rw [if_pos (by omega)] at z2 | rw [if_neg (by omega)] at z2); omega)
        · skip
          refine Ev.aload_n dX5_readsItem_57 rfl ?_
          refine Ev.aload_n dX5_readsItem_58 rfl ?_
          refine Ev.geti (18) dX5_readsItem_59 fl_X5_79 lm_0 (by decide) rfl rfl ?_
          rw [r4]
          refine Ev.iconst dX5_readsItem_62 ⟨by decide, by decide⟩ ?_
          refine Ev.iadd dX5_readsItem_63 (by unfold ev_in; omega) ?_
          refine Ev.iload_n dX5_readsItem_64 rfl ?_
          refine Ev.iconst dX5_readsItem_65 ⟨by decide, by decide⟩ ?_
          refine Ev.icmp_ne (tgt := 73) dX5_readsItem_66 rfl (fun c66 => ?_) (fun c66 => ?_)
          · skip
            refine Ev.iconst dX5_readsItem_73 ⟨by decide, by decide⟩ ?_
            refine Ev.iload_n dX5_readsItem_74 rfl ?_
            refine Ev.Si1 (I' := jX5_highest) ml_X5_86 dX5_readsItem_75 cyX5_highest (by decide) ⟨by decide, by decide⟩ (by simp) rfl rfl (s_X5_highest') (fun r σ' hr75 hq => ?_)
            obtain ⟨rfl, hq⟩ := hq
            replace hq := hq.symm
            subst hq
            refine Ev.Vi3 (I' := jX5_number) ml_X5_89 dX5_readsItem_78 cyX5_number lm_0 rfl (by decide) ⟨by decide, by decide⟩ (by simp) rfl rfl (s_X5_number r2 (by omega) (by omega)) (fun r σ' hr78 hq => ?_)
            rw [hLf, hLv] at hq
            obtain ⟨hq1, hq⟩ := hq
            subst hq
            have hq2 := ite_01 hq1
            clear hq1
            refine Ev.if_ne (tgt := 86) dX5_readsItem_81 rfl (fun c81 => ?_) (fun c81 => ?_)
            · skip
              refine Ev.aload_n dX5_readsItem_86 rfl ?_
              refine Ev.getr (640) dX5_readsItem_87 fl_X5_31 lm_0 (by decide) rfl rfl ?_
              refine Ev.iload_n dX5_readsItem_90 rfl ?_
              refine Ev.iload_n dX5_readsItem_91 rfl ?_
              refine Ev.iadd dX5_readsItem_92 (by unfold ev_in; omega) ?_
              refine Ev.aload_n dX5_readsItem_93 rfl ?_
              refine Ev.geti (17) dX5_readsItem_94 fl_X5_72 lm_0 (by decide) rfl rfl ?_
              try simp (disch := omega) only [ev_up_ne, ev_up_eqs]
              refine Ev.iast dX5_readsItem_97 lm_640 (by omega) (by omega) ?_
              refine Ev.iinc3 dX5_readsItem_98 (by unfold ev_in; omega) ?_
              refine Ev.goto (tgt := 35) dX5_readsItem_101 rfl ?_
              first | (exfalso; omega) | (refine ih (k + 1) _ (by omega) (good ?_ _ rfl); refine ⟨by omega, ?_⟩; unfold vl; (first | rw [if_pos (by omega)] | rw [if_neg (by omega)]); omega)
            · skip
              refine Ev.iconst dX5_readsItem_84 ⟨by decide, by decide⟩ ?_
              refine Ev.bool rfl dX5_readsItem_85 (by omega) ?_
              first | (exfalso; omega) | exact bad (fun z => by have := z.1; omega) _ r1 r2 | (refine bad (fun z => ?_) _ ((r1.up (Or.inr (Or.inl rfl))).up (Or.inr (Or.inr (Or.inl rfl)))) ((r2.t17 (by omega) (by omega)).t18 (by omega) (by omega)); have z2 := z.2; unfold vl at z2; (first | rw [if_pos (by omega)] at z2 | rw [if_neg (by omega)] at z2); omega)
          · skip
            refine Ev.iconst dX5_readsItem_69 ⟨by decide, by decide⟩ ?_
            refine Ev.goto (tgt := 74) dX5_readsItem_70 rfl ?_
            refine Ev.iload_n dX5_readsItem_74 rfl ?_
            refine Ev.Si1 (I' := jX5_highest) ml_X5_86 dX5_readsItem_75 cyX5_highest (by decide) ⟨by decide, by decide⟩ (by simp) rfl rfl (s_X5_highest') (fun r σ' hr75 hq => ?_)
            obtain ⟨rfl, hq⟩ := hq
            replace hq := hq.symm
            subst hq
            refine Ev.Vi3 (I' := jX5_number) ml_X5_89 dX5_readsItem_78 cyX5_number lm_0 rfl (by decide) ⟨by decide, by decide⟩ (by simp) rfl rfl (s_X5_number r2 (by omega) (by omega)) (fun r σ' hr78 hq => ?_)
            rw [hLf, hLv] at hq
            obtain ⟨hq1, hq⟩ := hq
            subst hq
            have hq2 := ite_01 hq1
            clear hq1
            refine Ev.if_ne (tgt := 86) dX5_readsItem_81 rfl (fun c81 => ?_) (fun c81 => ?_)
            · skip
              refine Ev.aload_n dX5_readsItem_86 rfl ?_
              refine Ev.getr (640) dX5_readsItem_87 fl_X5_31 lm_0 (by decide) rfl rfl ?_
              refine Ev.iload_n dX5_readsItem_90 rfl ?_
              refine Ev.iload_n dX5_readsItem_91 rfl ?_
              refine Ev.iadd dX5_readsItem_92 (by unfold ev_in; omega) ?_
              refine Ev.aload_n dX5_readsItem_93 rfl ?_
              refine Ev.geti (17) dX5_readsItem_94 fl_X5_72 lm_0 (by decide) rfl rfl ?_
              try simp (disch := omega) only [ev_up_ne, ev_up_eqs]
              refine Ev.iast dX5_readsItem_97 lm_640 (by omega) (by omega) ?_
              refine Ev.iinc3 dX5_readsItem_98 (by unfold ev_in; omega) ?_
              refine Ev.goto (tgt := 35) dX5_readsItem_101 rfl ?_
              first | (exfalso; omega) | (refine ih (k + 1) _ (by omega) (good ?_ _ rfl); refine ⟨by omega, ?_⟩; unfold vl; (first | rw [if_pos (by omega)] | rw [if_neg (by omega)]); omega)
            · skip
              refine Ev.iconst dX5_readsItem_84 ⟨by decide, by decide⟩ ?_
              refine Ev.bool rfl dX5_readsItem_85 (by omega) ?_
              first | (exfalso; omega) | exact bad (fun z => by have := z.1; omega) _ r1 r2 | (refine bad (fun z => ?_) _ ((r1.up (Or.inr (Or.inl rfl))).up (Or.inr (Or.inr (Or.inl rfl)))) ((r2.t17 (by omega) (by omega)).t18 (by omega) (by omega)); have z2 := z.2; unfold vl at z2; (first | rw [if_pos (by omega)] at z2 | rw [if_neg (by omega)] at z2); omega)
theorem s_X5_readsItem {σ : ev_M} {p b : Int} (hM : MI b σ) (hp : 0 ≤ p) (hp2 : p ≤ 300) : Ev jX5_readsItem layM 0 [some (rv 0), some (iv p), none, none, none, none] [] σ (fun r σ' => RQ σ p b r σ') := by
  have h15 := hM.s15
  have h0 := hM.s0
  have zz : ∀ (ρ : ev_M), ρ = ev_up σ 18 p → RI σ p b 0 ρ := by
    intro ρ e
    subst e
    refine ⟨RF.rf.up (Or.inr (Or.inr (Or.inl rfl))), hM.t18 (by omega) (by omega), ev_up_ne (by decide), ev_up_eq, fun j hj => absurd hj (by omega), fun j hj => absurd hj (by omega), fun m m0 m1 => ev_up_ne (by omega)⟩
  refine Ev.aload_n dX5_readsItem_0 rfl ?_
  refine Ev.iload_n dX5_readsItem_1 rfl ?_
  refine Ev.Vi1 (I' := jX5_letterAt) ml_X5_75 dX5_readsItem_2 cyX5_letterAt lm_0 rfl (by decide) ⟨by decide, by decide⟩ (by simp) rfl rfl (s_X5_letterAt' (by omega) (by omega)) (fun r σ' hr2 hq => ?_)
  obtain ⟨rfl, hq⟩ := hq
  replace hq := hq.symm
  subst hq
  refine Ev.bipush dX5_readsItem_5 ⟨by decide, by decide⟩ (by decide) ?_
  refine Ev.icmp_ne (tgt := 19) dX5_readsItem_7 rfl (fun c7 => ?_) (fun c7 => ?_)
  · skip
    refine Ev.iconst dX5_readsItem_19 ⟨by decide, by decide⟩ ?_
    refine Ev.bool rfl dX5_readsItem_20 (by omega) ?_
    refine ⟨RF.rf, hM, Or.inr ⟨rfl, ?_⟩⟩
    first | (left; omega) | (right; left; exact fun z => absurd z.1 (by omega))
  · skip
    refine Ev.aload_n dX5_readsItem_10 rfl ?_
    refine Ev.geti (15) dX5_readsItem_11 fl_X5_37 lm_0 (by decide) rfl rfl ?_
    refine Ev.bipush dX5_readsItem_14 ⟨by decide, by decide⟩ (by decide) ?_
    refine Ev.icmp_ne (tgt := 21) dX5_readsItem_16 rfl (fun c16 => ?_) (fun c16 => ?_)
    · skip
      refine Ev.aload_n dX5_readsItem_21 rfl ?_
      refine Ev.iload_n dX5_readsItem_22 rfl ?_
      refine Ev.puti (18) dX5_readsItem_23 fl_X5_79 ft_5_18 lm_0 (by decide) rfl rfl ?_
      refine Ev.iconst dX5_readsItem_26 ⟨by decide, by decide⟩ ?_
      refine Ev.aload_n dX5_readsItem_27 rfl ?_
      refine Ev.geti (15) dX5_readsItem_28 fl_X5_37 lm_0 (by decide) rfl rfl ?_
      try simp (disch := omega) only [ev_up_ne, ev_up_eqs]
      refine Ev.imul dX5_readsItem_31 (by unfold ev_in; omega) ?_
      refine Ev.istore2 rfl dX5_readsItem_32 ?_
      refine Ev.iconst dX5_readsItem_33 ⟨by decide, by decide⟩ ?_
      refine Ev.istore3 rfl dX5_readsItem_34 ?_
      exact t_ri_num hM (by omega) hp hp2 (by omega) 5 0 _ (by decide) (zz _ rfl)
    · skip
      refine Ev.iconst dX5_readsItem_19 ⟨by decide, by decide⟩ ?_
      refine Ev.bool rfl dX5_readsItem_20 (by omega) ?_
      refine ⟨RF.rf, hM, Or.inr ⟨rfl, ?_⟩⟩
      first | (left; omega) | (right; left; exact fun z => absurd z.1 (by omega))
/-- what the items before n told, in the store -/
def RdI (σ : ev_M) (b : Int) (n : Nat) (ρ : ev_M) : Prop := n ≤ 6 ∧ RF σ ρ ∧ MI b ρ ∧ ρ 15 = (n : Int) ∧ (∀ i : Nat, i < n → sp (Lm σ) i < σ 0 ∧ okit (Lm σ) i) ∧ ∀ i j : Nat, i < n → j < 5 → ρ (640 + (5 * (i : Int) + (j : Int))) = va (Lm σ) i j
def RdQ (σ : ev_M) (b r : Int) (σ' : ev_M) : Prop := RF σ σ' ∧ MI b σ' ∧ ∃ n : Nat, RdP (Lm σ) (σ 0) r n ∧ (r = -4 → RdI σ b n σ')
theorem itok_c {L L' : Int → Int} {p : Int} (h : ∀ q, 0 ≤ q → L q = L' q) (hp : 0 ≤ p) : (∀ k : Nat, en L p k = en L' p k) ∧ (∀ k : Nat, vl L p k = vl L' p k) ∧ (itok L p ↔ itok L' p) := by
  have he : ∀ k : Nat, en L p k = en L' p k := by
    intro k
    induction k with
    | zero => rfl
    | succ k ih =>
      show en L p k + 1 + nf L (en L p k + 1) = en L' p k + 1 + nf L' (en L' p k + 1)
      have := en_rng (L := L') (p := p) k
      rw [ih, nf_c h (by omega)]
  have hv : ∀ k : Nat, vl L p k = vl L' p k := by
    intro k
    unfold vl
    have := en_rng (L := L') (p := p) k
    rw [he k, nv_c h (by omega)]
  refine ⟨he, hv, ?_⟩
  have hn : ∀ k : Nat, nok L p k ↔ nok L' p k := by
    intro k
    have := en_rng (L := L') (p := p) k
    unfold nok
    rw [hv k, he k, h _ (by omega), nf_c h (by omega)]
  have e5 := en_rng (L := L') (p := p) 5
  unfold itok
  rw [h p hp, he 5, h _ (by omega)]
  constructor
  · intro z; exact ⟨z.1, fun k hk => (hn k).mp (z.2.1 k hk), z.2.2⟩
  · intro z; exact ⟨z.1, fun k hk => (hn k).mpr (z.2.1 k hk), z.2.2⟩
theorem sp_rng {L : Int → Int} {len : Int} : ∀ n : Nat, (∀ i : Nat, i < n → sp L i < len) → 0 ≤ len → 0 ≤ sp L n ∧ sp L n ≤ len + 15
  | 0, _, hl => ⟨Int.le_refl 0, by show (0 : Int) ≤ len + 15; omega⟩
  | n + 1, h, hl => by
    have h1 := sp_rng n (fun i hi => h i (by omega)) hl
    have h2 := h n (by omega)
    have h3 := en_rng (L := L) (p := sp L n) 5
    show 0 ≤ en L (sp L n) 5 + 1 ∧ en L (sp L n) 5 + 1 ≤ len + 15
    omega
theorem s_X5_reads {σ : ev_M} {b : Int} (hM : MI b σ) : Ev jX5_reads layM 0 [some (rv 0), none] [] σ (fun r σ' => RdQ σ b r σ') := by
  have h0 := hM.s0
  have loop : ∀ (j n : Nat) (ρ : ev_M), n + j = 7 → RdI σ b n ρ → Ev jX5_reads layM 7 [some (rv 0), some (iv (sp (Lm σ) n))] [] ρ (fun r σ' => RdQ σ b r σ') := by
    intro j
    induction j with
    | zero =>
      intro n ρ hn hI
      exact absurd hI.1 (by omega)
    | succ j ih =>
      intro n ρ hn hI
      have hI' := hI
      obtain ⟨i0, i1, i2, i3, i4, i5⟩ := hI'
      have e0 : ρ 0 = σ 0 := i1 0 (by decide)
      have hs := sp_rng (L := Lm σ) (len := σ 0) n (fun i hi => (i4 i hi).1) h0.1
      obtain ⟨c1, c2, c3⟩ := itok_c (i1.L hM) hs.1
      have hap : ∀ d : Nat, d < n → (APs ρ (sp (Lm σ) n) (d : Int) ↔ apt (Lm σ) d n) := by
        intro d hd
        have j1 : ρ (640 + (5 * (d : Int) + 1)) = va (Lm σ) d 1 := i5 d 1 hd (by decide)
        have j2 : ρ (640 + (5 * (d : Int) + 2)) = va (Lm σ) d 2 := i5 d 2 hd (by decide)
        unfold APs apt
        rw [j1, j2, c2 1, c2 2]
        exact Iff.rfl
      refine Ev.iload_n dX5_reads_7 rfl ?_
      refine Ev.aload_n dX5_reads_8 rfl ?_
      refine Ev.geti (0) dX5_reads_9 fl_X5_69 lm_0 (by decide) rfl rfl ?_
      refine Ev.icmp_ge (tgt := 35) dX5_reads_12 rfl (fun c12 => ?_) (fun c12 => ?_)
      · skip
        refine Ev.bipush dX5_reads_35 ⟨by decide, by decide⟩ (by decide) ?_
        refine Ev.int rfl dX5_reads_37 ?_
        exact ⟨i1, i2, n, ⟨i0, i4, Or.inl ⟨by omega, rfl⟩⟩, fun _ => hI⟩
      · skip
        refine Ev.aload_n dX5_reads_15 rfl ?_
        refine Ev.iload_n dX5_reads_16 rfl ?_
        refine Ev.Vi1 (I' := jX5_readsItem) ml_X5_92 dX5_reads_17 cyX5_readsItem lm_0 rfl (by decide) ⟨by decide, by decide⟩ (by simp) rfl rfl (s_X5_readsItem i2 (by omega) (by omega)) (fun r σ' hr17 hq => ?_)
        obtain ⟨q1, q2, q3⟩ := hq
        have qF : RF σ σ' := fun k hk => (q1 k hk).trans (i1 k hk)
        refine Ev.if_ne (tgt := 25) dX5_reads_20 rfl (fun c20 => ?_) (fun c20 => ?_)
        · skip
          rcases q3 with ⟨-, q6, q7, q8, q9, q10, q11, q12⟩ | ⟨q4, -⟩
          rotate_left
          · exact absurd q4 c20
          have e18 := q2.s18
          refine Ev.aload_n dX5_reads_25 rfl ?_
          refine Ev.geti (18) dX5_reads_26 fl_X5_79 lm_0 (by decide) rfl rfl ?_
          refine Ev.iconst dX5_reads_29 ⟨by decide, by decide⟩ ?_
          refine Ev.iadd dX5_reads_30 (by unfold ev_in; omega) ?_
          refine Ev.istore1 rfl dX5_reads_31 ?_
          refine Ev.goto (tgt := 7) dX5_reads_32 rfl ?_
          rw [q10, c1 5]
          refine ih (n + 1) _ (by omega) ⟨by omega, qF, q2, by omega, ?_, ?_⟩
          · intro i hi
            by_cases hin : i = n
            · subst hin
              exact ⟨by omega, c3.mp q7, fun d hd => (hap d hd).mp (q8 (d : Int) (by omega) (by omega))⟩
            · exact i4 i (by omega)
          · intro i f hi hf
            by_cases hin : i = n
            · subst hin
              have := q11 f hf
              rw [i3] at this
              rw [this, c2 f]
              rfl
            · rw [q12 _ (by omega) (by omega), i5 i f (by omega) hf]
        · skip
          refine Ev.iload_n dX5_reads_23 rfl ?_
          refine Ev.int rfl dX5_reads_24 ?_
          refine ⟨qF, q2, n, ⟨i0, i4, Or.inr ⟨by omega, ?_, rfl⟩⟩, fun z => absurd z (by omega)⟩
          rcases q3 with ⟨q4, -⟩ | ⟨-, q5⟩
          · exact absurd q4 (by omega)
          · rcases q5 with q5 | q5 | ⟨d, d0, d1, q5⟩
            · left; omega
            · right; exact fun z => q5 (c3.mpr z.1)
            · right; exact fun z => q5 (by have := (hap d.toNat (by omega)).mpr (z.2 d.toNat (by omega)); rwa [show ((d.toNat : Nat) : Int) = d by omega] at this)
  refine Ev.aload_n dX5_reads_0 rfl ?_
  refine Ev.iconst dX5_reads_1 ⟨by decide, by decide⟩ ?_
  refine Ev.puti (15) dX5_reads_2 fl_X5_37 ft_5_15 lm_0 (by decide) rfl rfl ?_
  refine Ev.iconst dX5_reads_5 ⟨by decide, by decide⟩ ?_
  refine Ev.istore1 rfl dX5_reads_6 ?_
  exact loop 7 0 _ (by decide) ⟨by decide, RF.rf.up (Or.inl rfl), hM.t15 (by decide) (by decide), ev_up_eq, fun i hi => absurd hi (by omega), fun i j hi hj => absurd hi (by omega)⟩
theorem s_X5_fault {σ : ev_M} {b : Int} (hM : MI b σ) : Ev jX5_fault layM 0 [some (rv 0)] [] σ (fun r σ' => RdQ σ b r σ') := by
  refine Ev.aload_n dX5_fault_0 rfl ?_
  refine Ev.Vi0 (I' := jX5_reads) ml_X5_96 dX5_fault_1 cyX5_reads lm_0 rfl (by decide) ⟨by decide, by decide⟩ (by simp) rfl rfl (s_X5_reads hM) (fun r σ' hr1 hq => ?_)
  skip
  refine Ev.int rfl dX5_fault_4 ?_
  exact hq
def rawv (τ : ev_M) (e w : Int) : Int := if w < 5 ∧ e < τ 15 then τ (640 + (5 * e + w)) else 0
def finv (τ : ev_M) (e w : Int) : Int := if w = 11 ∨ w = 14 then -4 else rawv τ e w
def bgk (d k : Int) (τ : ev_M) : ev_M := fun n => if 300 ≤ n ∧ n < 408 then (if (n - 300) / 18 < d then finv τ ((n - 300) / 18) ((n - 300) % 18) else if (n - 300) / 18 = d ∧ (n - 300) % 18 < k then rawv τ ((n - 300) / 18) ((n - 300) % 18) else τ n) else τ n
theorem bgk_o {d k n : Int} {τ : ev_M} (h : n < 300 ∨ 408 ≤ n) : bgk d k τ n = τ n := by unfold bgk; rw [if_neg (by omega)]
theorem bgk_k {d k : Int} {τ : ev_M} (h0 : 0 ≤ d) (h1 : d < 6) (k0 : 0 ≤ k) (k1 : k < 18) : ev_up (bgk d k τ) (300 + (18 * d + k)) (rawv τ d k) = bgk d (k + 1) τ := by
  funext n
  by_cases hn : n = (300 + (18 * d + k))
  · rw [ev_up_eqs hn]
    unfold bgk
    rw [if_pos (by omega), if_neg (by omega), if_pos (by omega), show (n - 300) / 18 = d by omega, show (n - 300) % 18 = k by omega]
  · rw [ev_up_ne hn]
    unfold bgk
    by_cases a1 : 300 ≤ n ∧ n < 408
    · rw [if_pos a1, if_pos a1]
      by_cases a2 : (n - 300) / 18 < d
      · rw [if_pos a2, if_pos a2]
      · rw [if_neg a2, if_neg a2]
        by_cases a3 : (n - 300) / 18 = d ∧ (n - 300) % 18 < k
        · rw [if_pos a3, if_pos (by omega)]
        · rw [if_neg a3, if_neg (by omega)]
    · rw [if_neg a1, if_neg a1]
theorem bgk_d {d : Int} {τ : ev_M} (h0 : 0 ≤ d) (h1 : d < 6) : ev_up (ev_up (bgk d 18 τ) (300 + (18 * d + 11)) (-4)) (300 + (18 * d + 14)) (-4) = bgk (d + 1) 0 τ := by
  funext n
  by_cases h14 : n = (300 + (18 * d + 14))
  · rw [ev_up_eqs h14]
    unfold bgk finv
    rw [if_pos (by omega), if_pos (by omega), if_pos (by omega)]
  · rw [ev_up_ne h14]
    by_cases h11 : n = (300 + (18 * d + 11))
    · rw [ev_up_eqs h11]
      unfold bgk finv
      rw [if_pos (by omega), if_pos (by omega), if_pos (by omega)]
    · rw [ev_up_ne h11]
      unfold bgk
      by_cases a1 : 300 ≤ n ∧ n < 408
      · rw [if_pos a1, if_pos a1]
        by_cases a2 : (n - 300) / 18 < d
        · rw [if_pos a2, if_pos (by omega)]
        · rw [if_neg a2]
          by_cases a3 : (n - 300) / 18 = d
          · rw [if_pos (by omega), if_pos (by omega)]
            unfold finv
            rw [if_neg (by omega)]
          · rw [if_neg (by omega), if_neg (by omega), if_neg (by omega)]
      · rw [if_neg a1, if_neg a1]
def szk (k : Int) (τ : ev_M) : ev_M := fun n => if 570 ≤ n ∧ n < 570 + k then 0 else τ n
theorem szk_s {k : Int} {τ : ev_M} (h0 : 0 ≤ k) : ev_up (szk k τ) (570 + k) 0 = szk (k + 1) τ := by
  funext n
  by_cases hn : n = 570 + k
  · rw [ev_up_eqs hn]; unfold szk; rw [if_pos (by omega)]
  · rw [ev_up_ne hn]
    unfold szk
    by_cases a : 570 ≤ n ∧ n < 570 + k
    · rw [if_pos a, if_pos (by omega)]
    · rw [if_neg a, if_neg (by omega)]
def m_bg1 (τ : ev_M) : ev_M := ev_up (ev_up (ev_up (ev_up (ev_up (ev_up (bgk 6 0 (ev_up τ 2 (τ 15))) 5 0) 6 0) 7 0) 8 (-4)) 9 0) 11 0
def m_begins (τ : ev_M) : ev_M := szk 8 (m_bg1 τ)
theorem s_X5_begins {σ : ev_M} (h15 : 0 ≤ σ 15) (h15' : σ 15 ≤ 6) : Ev jX5_begins layM 0 [some (rv 0), none, none] [] σ (fun _ σ' => σ' = m_begins σ) := by
  have sl : ∀ (j k : Nat) (ρ : ev_M) (x : Option ev_V), k + j = 8 → ρ = szk (k : Int) (m_bg1 σ) → Ev jX5_begins layM 120 [some (rv 0), some (iv (k : Int)), x] [] ρ (fun _ σ' => σ' = m_begins σ) := by
    intro j
    induction j with
    | zero =>
      intro k ρ x hk hρ
      refine Ev.iload_n dX5_begins_120 rfl ?_
      refine Ev.bipush dX5_begins_121 ⟨by decide, by decide⟩ (by decide) ?_
      refine Ev.icmp_ge (tgt := 139) dX5_begins_123 rfl (fun c123 => ?_) (fun c123 => ?_)
      · skip
        refine Ev.vret dX5_begins_139 rfl ?_
        rw [hρ, show k = 8 by omega]
        rfl
      · skip
        exact absurd c123 (by omega)
    | succ j ih =>
      intro k ρ x hk hρ
      refine Ev.iload_n dX5_begins_120 rfl ?_
      refine Ev.bipush dX5_begins_121 ⟨by decide, by decide⟩ (by decide) ?_
      refine Ev.icmp_ge (tgt := 139) dX5_begins_123 rfl (fun c123 => ?_) (fun c123 => ?_)
      · skip
        exact absurd c123 (by omega)
      · skip
        refine Ev.aload_n dX5_begins_126 rfl ?_
        refine Ev.getr (570) dX5_begins_127 fl_X5_19 lm_0 (by decide) rfl rfl ?_
        refine Ev.iload_n dX5_begins_130 rfl ?_
        refine Ev.iconst dX5_begins_131 ⟨by decide, by decide⟩ ?_
        refine Ev.iast dX5_begins_132 lm_570 (by omega) (by omega) ?_
        refine Ev.iinc1 dX5_begins_133 (by unfold ev_in; omega) ?_
        refine Ev.goto (tgt := 120) dX5_begins_136 rfl ?_
        refine ih (k + 1) _ _ (by omega) ?_
        rw [hρ]
        exact szk_s (by omega)
  have il : ∀ (d : Nat), d < 6 → (∀ (ρ : ev_M) (x : Option ev_V), ρ = bgk ((d + 1 : Nat) : Int) 0 (ev_up σ 2 (σ 15)) → Ev jX5_begins layM 10 [some (rv 0), some (iv ((d + 1 : Nat) : Int)), x] [] ρ (fun _ σ' => σ' = m_begins σ)) → ∀ (j k : Nat) (ρ : ev_M), k + j = 18 → ρ = bgk (d : Int) (k : Int) (ev_up σ 2 (σ 15)) → Ev jX5_begins layM 18 [some (rv 0), some (iv (d : Int)), some (iv (k : Int))] [] ρ (fun _ σ' => σ' = m_begins σ) := by
    intro d hd nx j
    induction j with
    | zero =>
      intro k ρ hk hρ
      have hk18 : k = 18 := by omega
      subst hk18
      refine Ev.iload_n dX5_begins_18 rfl ?_
      refine Ev.bipush dX5_begins_19 ⟨by decide, by decide⟩ (by decide) ?_
      refine Ev.icmp_ge (tgt := 63) dX5_begins_21 rfl (fun c21 => ?_) (fun c21 => ?_)
      · skip
        refine Ev.aload_n dX5_begins_63 rfl ?_
        refine Ev.iload_n dX5_begins_64 rfl ?_
        refine Ev.bipush dX5_begins_65 ⟨by decide, by decide⟩ (by decide) ?_
        refine Ev.bipush dX5_begins_67 ⟨by decide, by decide⟩ (by decide) ?_
        refine Ev.Vv3 (I' := jX5_puts) ml_X5_47 dX5_begins_69 cyX5_puts lm_0 rfl (by decide) ⟨by decide, by decide⟩ (by simp) rfl rfl (s_X5_puts (by omega) (by omega) (by decide) (by decide)) (fun σ' hq => ?_)
        subst hq
        refine Ev.aload_n dX5_begins_72 rfl ?_
        refine Ev.iload_n dX5_begins_73 rfl ?_
        refine Ev.bipush dX5_begins_74 ⟨by decide, by decide⟩ (by decide) ?_
        refine Ev.bipush dX5_begins_76 ⟨by decide, by decide⟩ (by decide) ?_
        refine Ev.Vv3 (I' := jX5_puts) ml_X5_47 dX5_begins_78 cyX5_puts lm_0 rfl (by decide) ⟨by decide, by decide⟩ (by simp) rfl rfl (s_X5_puts (by omega) (by omega) (by decide) (by decide)) (fun σ' hq => ?_)
        subst hq
        refine Ev.iinc1 dX5_begins_81 (by unfold ev_in; omega) ?_
        refine Ev.goto (tgt := 10) dX5_begins_84 rfl ?_
        refine nx _ _ ?_
        rw [hρ]
        exact bgk_d (by omega) (by omega)
      · skip
        exact absurd c21 (by decide)
    | succ j ih =>
      intro k ρ hk hρ
      have e15 : ρ 15 = σ 15 := by rw [hρ, bgk_o (by decide), ev_up_ne (by decide)]
      have er : ρ (640 + (5 * (d : Int) + (k : Int))) = σ (640 + (5 * (d : Int) + (k : Int))) := by rw [hρ, bgk_o (by omega), ev_up_ne (by omega)]
      have ew : rawv (ev_up σ 2 (σ 15)) (d : Int) (k : Int) = (if (k : Int) < 5 ∧ (d : Int) < σ 15 then σ (640 + (5 * (d : Int) + (k : Int))) else 0) := by unfold rawv; rw [ev_up_ne (by decide), ev_up_ne (by omega)]
      refine Ev.iload_n dX5_begins_18 rfl ?_
      refine Ev.bipush dX5_begins_19 ⟨by decide, by decide⟩ (by decide) ?_
      refine Ev.icmp_ge (tgt := 63) dX5_begins_21 rfl (fun c21 => ?_) (fun c21 => ?_)
      · skip
        exact absurd c21 (by omega)
      · skip
        refine Ev.aload_n dX5_begins_24 rfl ?_
        refine Ev.iload_n dX5_begins_25 rfl ?_
        refine Ev.iload_n dX5_begins_26 rfl ?_
        refine Ev.iload_n dX5_begins_27 rfl ?_
        refine Ev.iconst dX5_begins_28 ⟨by decide, by decide⟩ ?_
        refine Ev.icmp_ge (tgt := 53) dX5_begins_29 rfl (fun c29 => ?_) (fun c29 => ?_)
        · skip
          refine Ev.iconst dX5_begins_53 ⟨by decide, by decide⟩ ?_
          refine Ev.Vv3 (I' := jX5_puts) ml_X5_47 dX5_begins_54 cyX5_puts lm_0 rfl (by decide) ⟨by decide, by decide⟩ (by simp) rfl rfl (s_X5_puts (by omega) (by omega) (by omega) (by omega)) (fun σ' hq => ?_)
          subst hq
          refine Ev.iinc2 dX5_begins_57 (by unfold ev_in; omega) ?_
          refine Ev.goto (tgt := 18) dX5_begins_60 rfl ?_
          refine ih (k + 1) _ (by omega) ?_
          have := bgk_k (d := (d : Int)) (k := (k : Int)) (τ := ev_up σ 2 (σ 15)) (by omega) (by omega) (by omega) (by omega)
          rw [ew] at this
          first | rw [if_pos (by omega)] at this | rw [if_neg (by omega)] at this
          rw [hρ]
          exact this
        · skip
          refine Ev.iload_n dX5_begins_32 rfl ?_
          refine Ev.aload_n dX5_begins_33 rfl ?_
          refine Ev.geti (15) dX5_begins_34 fl_X5_37 lm_0 (by decide) rfl rfl ?_
          refine Ev.icmp_ge (tgt := 53) dX5_begins_37 rfl (fun c37 => ?_) (fun c37 => ?_)
          · skip
            refine Ev.iconst dX5_begins_53 ⟨by decide, by decide⟩ ?_
            refine Ev.Vv3 (I' := jX5_puts) ml_X5_47 dX5_begins_54 cyX5_puts lm_0 rfl (by decide) ⟨by decide, by decide⟩ (by simp) rfl rfl (s_X5_puts (by omega) (by omega) (by omega) (by omega)) (fun σ' hq => ?_)
            subst hq
            refine Ev.iinc2 dX5_begins_57 (by unfold ev_in; omega) ?_
            refine Ev.goto (tgt := 18) dX5_begins_60 rfl ?_
            refine ih (k + 1) _ (by omega) ?_
            have := bgk_k (d := (d : Int)) (k := (k : Int)) (τ := ev_up σ 2 (σ 15)) (by omega) (by omega) (by omega) (by omega)
            rw [ew] at this
            first | rw [if_pos (by omega)] at this | rw [if_neg (by omega)] at this
            rw [hρ]
            exact this
          · skip
            refine Ev.aload_n dX5_begins_40 rfl ?_
            refine Ev.getr (640) dX5_begins_41 fl_X5_31 lm_0 (by decide) rfl rfl ?_
            refine Ev.iconst dX5_begins_44 ⟨by decide, by decide⟩ ?_
            refine Ev.iload_n dX5_begins_45 rfl ?_
            refine Ev.imul dX5_begins_46 (by unfold ev_in; omega) ?_
            refine Ev.iload_n dX5_begins_47 rfl ?_
            refine Ev.iadd dX5_begins_48 (by unfold ev_in; omega) ?_
            refine Ev.iald dX5_begins_49 lm_640 (Or.inl rfl) (by omega) (by omega) ?_
            rw [er]
            refine Ev.goto (tgt := 54) dX5_begins_50 rfl ?_
            refine Ev.Vv3 (I' := jX5_puts) ml_X5_47 dX5_begins_54 cyX5_puts lm_0 rfl (by decide) ⟨by decide, by decide⟩ (by simp) rfl rfl (s_X5_puts (by omega) (by omega) (by omega) (by omega)) (fun σ' hq => ?_)
            subst hq
            refine Ev.iinc2 dX5_begins_57 (by unfold ev_in; omega) ?_
            refine Ev.goto (tgt := 18) dX5_begins_60 rfl ?_
            refine ih (k + 1) _ (by omega) ?_
            have := bgk_k (d := (d : Int)) (k := (k : Int)) (τ := ev_up σ 2 (σ 15)) (by omega) (by omega) (by omega) (by omega)
            rw [ew] at this
            first | rw [if_pos (by omega)] at this | rw [if_neg (by omega)] at this
            rw [hρ]
            exact this
  have ol : ∀ (j d : Nat) (ρ : ev_M) (x : Option ev_V), d + j = 6 → ρ = bgk (d : Int) 0 (ev_up σ 2 (σ 15)) → Ev jX5_begins layM 10 [some (rv 0), some (iv (d : Int)), x] [] ρ (fun _ σ' => σ' = m_begins σ) := by
    intro j
    induction j with
    | zero =>
      intro d ρ x hd hρ
      have hd6 : d = 6 := by omega
      subst hd6
      refine Ev.iload_n dX5_begins_10 rfl ?_
      refine Ev.bipush dX5_begins_11 ⟨by decide, by decide⟩ (by decide) ?_
      refine Ev.icmp_ge (tgt := 87) dX5_begins_13 rfl (fun c13 => ?_) (fun c13 => ?_)
      · skip
        refine Ev.aload_n dX5_begins_87 rfl ?_
        refine Ev.iconst dX5_begins_88 ⟨by decide, by decide⟩ ?_
        refine Ev.puti (5) dX5_begins_89 fl_X5_51 ft_5_5 lm_0 (by decide) rfl rfl ?_
        refine Ev.aload_n dX5_begins_92 rfl ?_
        refine Ev.iconst dX5_begins_93 ⟨by decide, by decide⟩ ?_
        refine Ev.puti (6) dX5_begins_94 fl_X5_54 ft_5_6 lm_0 (by decide) rfl rfl ?_
        refine Ev.aload_n dX5_begins_97 rfl ?_
        refine Ev.iconst dX5_begins_98 ⟨by decide, by decide⟩ ?_
        refine Ev.puti (7) dX5_begins_99 fl_X5_57 ft_5_7 lm_0 (by decide) rfl rfl ?_
        refine Ev.aload_n dX5_begins_102 rfl ?_
        refine Ev.bipush dX5_begins_103 ⟨by decide, by decide⟩ (by decide) ?_
        refine Ev.puti (8) dX5_begins_105 fl_X5_60 ft_5_8 lm_0 (by decide) rfl rfl ?_
        refine Ev.aload_n dX5_begins_108 rfl ?_
        refine Ev.iconst dX5_begins_109 ⟨by decide, by decide⟩ ?_
        refine Ev.puti (9) dX5_begins_110 fl_X5_63 ft_5_9 lm_0 (by decide) rfl rfl ?_
        refine Ev.aload_n dX5_begins_113 rfl ?_
        refine Ev.iconst dX5_begins_114 ⟨by decide, by decide⟩ ?_
        refine Ev.puti (11) dX5_begins_115 fl_X5_66 ft_5_11 lm_0 (by decide) rfl rfl ?_
        refine Ev.iconst dX5_begins_118 ⟨by decide, by decide⟩ ?_
        refine Ev.istore1 rfl dX5_begins_119 ?_
        refine sl 8 0 _ _ (by decide) ?_
        rw [hρ]
        funext n
        unfold szk
        rw [if_neg (by omega)]
        rfl
      · skip
        exact absurd c13 (by decide)
    | succ j ih =>
      intro d ρ x hd hρ
      refine Ev.iload_n dX5_begins_10 rfl ?_
      refine Ev.bipush dX5_begins_11 ⟨by decide, by decide⟩ (by decide) ?_
      refine Ev.icmp_ge (tgt := 87) dX5_begins_13 rfl (fun c13 => ?_) (fun c13 => ?_)
      · skip
        exact absurd c13 (by omega)
      · skip
        refine Ev.iconst dX5_begins_16 ⟨by decide, by decide⟩ ?_
        refine Ev.istore2 rfl dX5_begins_17 ?_
        exact il d (by omega) (fun ρ x h => ih (d + 1) ρ x (by omega) h) 18 0 _ (by decide) hρ
  refine Ev.aload_n dX5_begins_0 rfl ?_
  refine Ev.aload_n dX5_begins_1 rfl ?_
  refine Ev.geti (15) dX5_begins_2 fl_X5_37 lm_0 (by decide) rfl rfl ?_
  refine Ev.puti (2) dX5_begins_5 fl_X5_44 ft_5_2 lm_0 (by decide) rfl rfl ?_
  refine Ev.iconst dX5_begins_8 ⟨by decide, by decide⟩ ?_
  refine Ev.istore1 rfl dX5_begins_9 ?_
  refine ol 6 0 _ _ (by decide) ?_
  funext n
  unfold bgk
  by_cases a1 : 300 ≤ n ∧ n < 408
  · rw [if_pos a1, if_neg (by omega), if_neg (by omega)]
  · rw [if_neg a1]
def LyQ (σ : ev_M) (b r : Int) (σ' : ev_M) : Prop := ∃ (q : Int) (ρ : ev_M), RdQ σ b q ρ ∧ ((r = -2 ∧ σ' = ρ ∧ ¬ (q = -4 ∧ ρ 15 ≠ 0 ∧ ρ 640 = 2)) ∨ (q = -4 ∧ ρ 15 ≠ 0 ∧ ρ 640 = 2 ∧ σ' = m_begins ρ ∧ r = m_begins ρ 2))
theorem s_X5_lay {σ : ev_M} {b : Int} (hM : MI b σ) : Ev jX5_lay layM 0 [some (rv 0)] [] σ (fun r σ' => LyQ σ b r σ') := by
  refine Ev.aload_n dX5_lay_0 rfl ?_
  refine Ev.Vi0 (I' := jX5_reads) ml_X5_96 dX5_lay_1 cyX5_reads lm_0 rfl (by decide) ⟨by decide, by decide⟩ (by simp) rfl rfl (s_X5_reads hM) (fun r σ' hr1 hq => ?_)
  have hR := hq
  refine Ev.bipush dX5_lay_4 ⟨by decide, by decide⟩ (by decide) ?_
  refine Ev.icmp_ne (tgt := 26) dX5_lay_6 rfl (fun c6 => ?_) (fun c6 => ?_)
  · skip
    refine Ev.bipush dX5_lay_26 ⟨by decide, by decide⟩ (by decide) ?_
    refine Ev.int rfl dX5_lay_28 ?_
    exact ⟨r, σ', hR, Or.inl ⟨rfl, rfl, by omega⟩⟩
  · skip
    refine Ev.aload_n dX5_lay_9 rfl ?_
    refine Ev.geti (15) dX5_lay_10 fl_X5_37 lm_0 (by decide) rfl rfl ?_
    refine Ev.if_eq (tgt := 26) dX5_lay_13 rfl (fun c13 => ?_) (fun c13 => ?_)
    · skip
      refine Ev.bipush dX5_lay_26 ⟨by decide, by decide⟩ (by decide) ?_
      refine Ev.int rfl dX5_lay_28 ?_
      exact ⟨r, σ', hR, Or.inl ⟨rfl, rfl, by omega⟩⟩
    · skip
      refine Ev.aload_n dX5_lay_16 rfl ?_
      refine Ev.getr (640) dX5_lay_17 fl_X5_31 lm_0 (by decide) rfl rfl ?_
      refine Ev.iconst dX5_lay_20 ⟨by decide, by decide⟩ ?_
      refine Ev.ialdn (640) dX5_lay_21 lm_640 (Or.inl rfl) (by decide) (by decide) rfl ?_
      refine Ev.iconst dX5_lay_22 ⟨by decide, by decide⟩ ?_
      refine Ev.icmp_eq (tgt := 29) dX5_lay_23 rfl (fun c23 => ?_) (fun c23 => ?_)
      · skip
        refine Ev.aload_n dX5_lay_29 rfl ?_
        refine Ev.Vv0 (I' := jX5_begins) ml_X5_41 dX5_lay_30 cyX5_begins lm_0 rfl (by decide) ⟨by decide, by decide⟩ (by simp) rfl rfl (s_X5_begins (hR.2.1.s15).1 (hR.2.1.s15).2) (fun σ' hq => ?_)
        subst hq
        refine Ev.aload_n dX5_lay_33 rfl ?_
        refine Ev.geti (2) dX5_lay_34 fl_X5_44 lm_0 (by decide) rfl rfl ?_
        refine Ev.int rfl dX5_lay_37 ?_
        exact ⟨r, σ', hR, Or.inr ⟨by omega, by omega, by omega, rfl, rfl⟩⟩
      · skip
        refine Ev.bipush dX5_lay_26 ⟨by decide, by decide⟩ (by decide) ?_
        refine Ev.int rfl dX5_lay_28 ?_
        exact ⟨r, σ', hR, Or.inl ⟨rfl, rfl, by omega⟩⟩
