/-! the reference: the text, all as at first -/
theorem ev_up_up {σ : ev_M} {n a b : Int} : ev_up (ev_up σ n a) n b = ev_up σ n b := by
  funext k
  unfold ev_up
  split <;> rfl
def Lm (τ : ev_M) (p : Int) : Int := if p < τ 0 then τ (100 + p) else 0
theorem s_X5_letterAt' {p : Int} {σ : ev_M} (hp : 0 ≤ p) (hl : σ 0 ≤ 200) : Ev jX5_letterAt layM 0 [some (rv 0), some (iv p)] [] σ (fun r σ' => r = Lm σ p ∧ σ' = σ) := s_X5_letterAt hp hl
theorem Lm_up {τ : ev_M} {n v p : Int} (h0 : n ≠ 0) (h1 : n ≠ 100 + p) : Lm (ev_up τ n v) p = Lm τ p := by
  unfold Lm
  rw [ev_up_ne (Ne.symm h0), ev_up_ne (Ne.symm h1)]
theorem MI.txt {b p : Int} {τ : ev_M} (h : MI b τ) (h0 : 0 ≤ p) : 0 ≤ Lm τ p ∧ Lm τ p ≤ 126 := by
  have hl := h.s0
  unfold Lm
  split
  · have h2 := h (100 + p)
    have e1 : mlo (100 + p) = 0 := by
      unfold mlo
      rw [if_neg (by omega), if_neg (by omega), if_pos (by omega)]
    have e2 : mhi b (100 + p) = 126 := by
      unfold mhi
      repeat' split
      all_goals omega
    rwa [e1, e2] at h2
  · decide
def nf (L : Int → Int) (p : Int) : Int := if 48 ≤ L p ∧ L p ≤ 57 then (if 48 ≤ L (p + 1) ∧ L (p + 1) ≤ 57 then 2 else 1) else 0
def nv (L : Int → Int) (p : Int) : Int := if 48 ≤ L p ∧ L p ≤ 57 then (if 48 ≤ L (p + 1) ∧ L (p + 1) ≤ 57 then 10 * (L p - 48) + L (p + 1) - 48 else L p - 48) else 0
theorem nf_rng {L : Int → Int} {p : Int} : 0 ≤ nf L p ∧ nf L p ≤ 2 := by unfold nf; split <;> (try split) <;> decide
theorem nv_rng {L : Int → Int} {p : Int} : 0 ≤ nv L p ∧ nv L p ≤ 99 := by unfold nv; split <;> (try split) <;> omega
theorem t_num {p lo hi at_ : Int} {ρ : ev_M} (h : p ≤ at_) (hin : ev_in (at_ + 1)) : Ev jX5_number layM 65 [some (rv 0), some (iv p), some (iv lo), some (iv hi), some (iv at_)] [] ρ (fun r σ' => r = (if p < at_ ∧ lo ≤ ρ 17 ∧ ρ 17 ≤ hi then 1 else 0) ∧ σ' = ev_up ρ 18 at_) := by
  refine Ev.aload_n dX5_number_65 rfl ?_
  refine Ev.iload dX5_number_66 rfl ?_
  refine Ev.puti (18) dX5_number_68 fl_X5_79 ft_5_18 lm_0 (by decide) rfl rfl ?_
  refine Ev.iload dX5_number_71 rfl ?_
  refine Ev.iload_n dX5_number_73 rfl ?_
  refine Ev.icmp_le (tgt := 93) dX5_number_74 rfl (fun c74 => ?_) (fun c74 => ?_)
  · skip
    refine Ev.iconst dX5_number_93 ⟨by decide, by decide⟩ ?_
    refine Ev.bool rfl dX5_number_94 (by omega) ?_
    refine ⟨?_, rfl⟩
    first | rw [if_pos (by omega)] | rw [if_neg (by omega)]
  · skip
    refine Ev.aload_n dX5_number_77 rfl ?_
    refine Ev.geti (17) dX5_number_78 fl_X5_72 lm_0 (by decide) rfl rfl ?_
    try simp (disch := omega) only [ev_up_ne, ev_up_eqs]
    refine Ev.iload_n dX5_number_81 rfl ?_
    refine Ev.iload_n dX5_number_82 rfl ?_
    refine Ev.Si3 (I' := jX5_isIn) ml_X5_82 dX5_number_83 cyX5_isIn (by decide) ⟨by decide, by decide⟩ (by simp) rfl rfl (s_X5_isIn') (fun r σ' hr83 hq => ?_)
    obtain ⟨hq1, hq⟩ := hq
    replace hq := hq.symm
    subst hq
    try simp (disch := omega) only [ev_up_ne, ev_up_eqs]
    refine Ev.if_eq (tgt := 93) dX5_number_86 rfl (fun c86 => ?_) (fun c86 => ?_)
    · skip
      refine Ev.iconst dX5_number_93 ⟨by decide, by decide⟩ ?_
      refine Ev.bool rfl dX5_number_94 (by omega) ?_
      refine ⟨?_, rfl⟩
      first | rw [if_pos (by omega)] | rw [if_neg (by omega)]
    · skip
      refine Ev.iconst dX5_number_89 ⟨by decide, by decide⟩ ?_
      refine Ev.goto (tgt := 94) dX5_number_90 rfl ?_
      refine Ev.bool rfl dX5_number_94 (by omega) ?_
      refine ⟨?_, rfl⟩
      first | rw [if_pos (by omega)] | rw [if_neg (by omega)]
theorem num_fin {σ ρ σ2 : ev_M} {p lo hi at_ r : Int} (h : r = (if p < at_ ∧ lo ≤ ρ 17 ∧ ρ 17 ≤ hi then 1 else 0) ∧ σ2 = ev_up ρ 18 at_) (e1 : ρ = ev_up σ 17 (nv (Lm σ) p)) (e2 : at_ = p + nf (Lm σ) p) : r = (if 0 < nf (Lm σ) p ∧ lo ≤ nv (Lm σ) p ∧ nv (Lm σ) p ≤ hi then 1 else 0) ∧ σ2 = ev_up (ev_up σ 17 (nv (Lm σ) p)) 18 (p + nf (Lm σ) p) := by
  subst e1
  subst e2
  rw [ev_up_eq] at h
  refine ⟨?_, h.2⟩
  rw [h.1]
  by_cases hc : 0 < nf (Lm σ) p ∧ lo ≤ nv (Lm σ) p ∧ nv (Lm σ) p ≤ hi
  · rw [if_pos hc, if_pos (by omega)]
  · rw [if_neg hc, if_neg (by omega)]
theorem s_X5_number {b p lo hi : Int} {σ : ev_M} (hM : MI b σ) (hp : 0 ≤ p) (hp2 : p ≤ 900) : Ev jX5_number layM 0 [some (rv 0), some (iv p), some (iv lo), some (iv hi), none] [] σ (fun r σ' => r = (if 0 < nf (Lm σ) p ∧ lo ≤ nv (Lm σ) p ∧ nv (Lm σ) p ≤ hi then 1 else 0) ∧ σ' = ev_up (ev_up σ 17 (nv (Lm σ) p)) 18 (p + nf (Lm σ) p)) := by
  have hl := hM.s0
  have l0 := hM.txt (p := p) hp
  have l1 := hM.txt (p := p + 1) (by omega)
  refine Ev.iload_n dX5_number_0 rfl ?_
  refine Ev.istore4 dX5_number_1 ?_
  refine Ev.aload_n dX5_number_3 rfl ?_
  refine Ev.iconst dX5_number_4 ⟨by decide, by decide⟩ ?_
  refine Ev.puti (17) dX5_number_5 fl_X5_72 ft_5_17 lm_0 (by decide) rfl rfl ?_
  refine Ev.aload_n dX5_number_8 rfl ?_
  refine Ev.iload dX5_number_9 rfl ?_
  refine Ev.Vi1 (I' := jX5_letterAt) ml_X5_75 dX5_number_11 cyX5_letterAt lm_0 rfl (by decide) ⟨by decide, by decide⟩ (by simp) rfl rfl (s_X5_letterAt' (by omega) (by simp (disch := omega) only [ev_up_ne]; omega)) (fun r σ' hr11 hq => ?_)
  obtain ⟨rfl, hq⟩ := hq
  replace hq := hq.symm
  subst hq
  try simp (disch := omega) only [ev_up_ne, ev_up_eqs, Lm_up, ev_up_up]
  refine Ev.bipush dX5_number_14 ⟨by decide, by decide⟩ (by decide) ?_
  refine Ev.icmp_lt (tgt := 65) dX5_number_16 rfl (fun c16 => ?_) (fun c16 => ?_)
  · skip
    refine (t_num (by omega) (by unfold ev_in; omega)).mono (fun r σ2 h => num_fin h ?_ ?_)
    · unfold nv
      repeat (first | rw [if_pos (by omega)] | rw [if_neg (by omega)])
      all_goals (try simp only [ev_up_up])
      all_goals (congr 1; omega)
    · unfold nf
      repeat (first | rw [if_pos (by omega)] | rw [if_neg (by omega)])
      all_goals omega
  · skip
    refine Ev.aload_n dX5_number_19 rfl ?_
    refine Ev.iload dX5_number_20 rfl ?_
    refine Ev.Vi1 (I' := jX5_letterAt) ml_X5_75 dX5_number_22 cyX5_letterAt lm_0 rfl (by decide) ⟨by decide, by decide⟩ (by simp) rfl rfl (s_X5_letterAt' (by omega) (by simp (disch := omega) only [ev_up_ne]; omega)) (fun r σ' hr22 hq => ?_)
    obtain ⟨rfl, hq⟩ := hq
    replace hq := hq.symm
    subst hq
    try simp (disch := omega) only [ev_up_ne, ev_up_eqs, Lm_up, ev_up_up]
    refine Ev.bipush dX5_number_25 ⟨by decide, by decide⟩ (by decide) ?_
    refine Ev.icmp_gt (tgt := 65) dX5_number_27 rfl (fun c27 => ?_) (fun c27 => ?_)
    · skip
      refine (t_num (by omega) (by unfold ev_in; omega)).mono (fun r σ2 h => num_fin h ?_ ?_)
      · unfold nv
        repeat (first | rw [if_pos (by omega)] | rw [if_neg (by omega)])
        all_goals (try simp only [ev_up_up])
        all_goals (congr 1; omega)
      · unfold nf
        repeat (first | rw [if_pos (by omega)] | rw [if_neg (by omega)])
        all_goals omega
    · skip
      refine Ev.iload dX5_number_30 rfl ?_
      refine Ev.iload_n dX5_number_32 rfl ?_
      refine Ev.iconst dX5_number_33 ⟨by decide, by decide⟩ ?_
      refine Ev.iadd dX5_number_34 (by unfold ev_in; omega) ?_
      refine Ev.icmp_ge (tgt := 65) dX5_number_35 rfl (fun c35 => ?_) (fun c35 => ?_)
      · skip
        omega
      · skip
        refine Ev.aload_n dX5_number_38 rfl ?_
        refine Ev.bipush dX5_number_39 ⟨by decide, by decide⟩ (by decide) ?_
        refine Ev.aload_n dX5_number_41 rfl ?_
        refine Ev.geti (17) dX5_number_42 fl_X5_72 lm_0 (by decide) rfl rfl ?_
        try simp (disch := omega) only [ev_up_ne, ev_up_eqs, Lm_up, ev_up_up]
        refine Ev.imul dX5_number_45 (by unfold ev_in; omega) ?_
        refine Ev.aload_n dX5_number_46 rfl ?_
        refine Ev.iload dX5_number_47 rfl ?_
        refine Ev.Vi1 (I' := jX5_letterAt) ml_X5_75 dX5_number_49 cyX5_letterAt lm_0 rfl (by decide) ⟨by decide, by decide⟩ (by simp) rfl rfl (s_X5_letterAt' (by omega) (by simp (disch := omega) only [ev_up_ne]; omega)) (fun r σ' hr49 hq => ?_)
        obtain ⟨rfl, hq⟩ := hq
        replace hq := hq.symm
        subst hq
        try simp (disch := omega) only [ev_up_ne, ev_up_eqs, Lm_up, ev_up_up]
        refine Ev.iadd dX5_number_52 (by unfold ev_in; omega) ?_
        refine Ev.bipush dX5_number_53 ⟨by decide, by decide⟩ (by decide) ?_
        refine Ev.isub dX5_number_55 (by unfold ev_in; omega) ?_
        refine Ev.puti (17) dX5_number_56 fl_X5_72 ft_5_17 lm_0 (by decide) rfl rfl ?_
        refine Ev.iinc4 dX5_number_59 (by unfold ev_in; omega) ?_
        refine Ev.goto (tgt := 8) dX5_number_62 rfl ?_
        refine Ev.aload_n dX5_number_8 rfl ?_
        refine Ev.iload dX5_number_9 rfl ?_
        refine Ev.Vi1 (I' := jX5_letterAt) ml_X5_75 dX5_number_11 cyX5_letterAt lm_0 rfl (by decide) ⟨by decide, by decide⟩ (by simp) rfl rfl (s_X5_letterAt' (by omega) (by simp (disch := omega) only [ev_up_ne]; omega)) (fun r σ' hr11 hq => ?_)
        obtain ⟨rfl, hq⟩ := hq
        replace hq := hq.symm
        subst hq
        try simp (disch := omega) only [ev_up_ne, ev_up_eqs, Lm_up, ev_up_up]
        refine Ev.bipush dX5_number_14 ⟨by decide, by decide⟩ (by decide) ?_
        refine Ev.icmp_lt (tgt := 65) dX5_number_16 rfl (fun c16 => ?_) (fun c16 => ?_)
        · skip
          refine (t_num (by omega) (by unfold ev_in; omega)).mono (fun r σ2 h => num_fin h ?_ ?_)
          · unfold nv
            repeat (first | rw [if_pos (by omega)] | rw [if_neg (by omega)])
            all_goals (try simp only [ev_up_up])
            all_goals (congr 1; omega)
          · unfold nf
            repeat (first | rw [if_pos (by omega)] | rw [if_neg (by omega)])
            all_goals omega
        · skip
          refine Ev.aload_n dX5_number_19 rfl ?_
          refine Ev.iload dX5_number_20 rfl ?_
          refine Ev.Vi1 (I' := jX5_letterAt) ml_X5_75 dX5_number_22 cyX5_letterAt lm_0 rfl (by decide) ⟨by decide, by decide⟩ (by simp) rfl rfl (s_X5_letterAt' (by omega) (by simp (disch := omega) only [ev_up_ne]; omega)) (fun r σ' hr22 hq => ?_)
          obtain ⟨rfl, hq⟩ := hq
          replace hq := hq.symm
          subst hq
          try simp (disch := omega) only [ev_up_ne, ev_up_eqs, Lm_up, ev_up_up]
          refine Ev.bipush dX5_number_25 ⟨by decide, by decide⟩ (by decide) ?_
          refine Ev.icmp_gt (tgt := 65) dX5_number_27 rfl (fun c27 => ?_) (fun c27 => ?_)
          · skip
            refine (t_num (by omega) (by unfold ev_in; omega)).mono (fun r σ2 h => num_fin h ?_ ?_)
            · unfold nv
              repeat (first | rw [if_pos (by omega)] | rw [if_neg (by omega)])
              all_goals (try simp only [ev_up_up])
              all_goals (congr 1; omega)
            · unfold nf
              repeat (first | rw [if_pos (by omega)] | rw [if_neg (by omega)])
              all_goals omega
          · skip
            refine Ev.iload dX5_number_30 rfl ?_
            refine Ev.iload_n dX5_number_32 rfl ?_
            refine Ev.iconst dX5_number_33 ⟨by decide, by decide⟩ ?_
            refine Ev.iadd dX5_number_34 (by unfold ev_in; omega) ?_
            refine Ev.icmp_ge (tgt := 65) dX5_number_35 rfl (fun c35 => ?_) (fun c35 => ?_)
            · skip
              omega
            · skip
              refine Ev.aload_n dX5_number_38 rfl ?_
              refine Ev.bipush dX5_number_39 ⟨by decide, by decide⟩ (by decide) ?_
              refine Ev.aload_n dX5_number_41 rfl ?_
              refine Ev.geti (17) dX5_number_42 fl_X5_72 lm_0 (by decide) rfl rfl ?_
              try simp (disch := omega) only [ev_up_ne, ev_up_eqs, Lm_up, ev_up_up]
              refine Ev.imul dX5_number_45 (by unfold ev_in; omega) ?_
              refine Ev.aload_n dX5_number_46 rfl ?_
              refine Ev.iload dX5_number_47 rfl ?_
              refine Ev.Vi1 (I' := jX5_letterAt) ml_X5_75 dX5_number_49 cyX5_letterAt lm_0 rfl (by decide) ⟨by decide, by decide⟩ (by simp) rfl rfl (s_X5_letterAt' (by omega) (by simp (disch := omega) only [ev_up_ne]; omega)) (fun r σ' hr49 hq => ?_)
              obtain ⟨rfl, hq⟩ := hq
              replace hq := hq.symm
              subst hq
              try simp (disch := omega) only [ev_up_ne, ev_up_eqs, Lm_up, ev_up_up]
              refine Ev.iadd dX5_number_52 (by unfold ev_in; omega) ?_
              refine Ev.bipush dX5_number_53 ⟨by decide, by decide⟩ (by decide) ?_
              refine Ev.isub dX5_number_55 (by unfold ev_in; omega) ?_
              refine Ev.puti (17) dX5_number_56 fl_X5_72 ft_5_17 lm_0 (by decide) rfl rfl ?_
              refine Ev.iinc4 dX5_number_59 (by unfold ev_in; omega) ?_
              refine Ev.goto (tgt := 8) dX5_number_62 rfl ?_
              refine Ev.aload_n dX5_number_8 rfl ?_
              refine Ev.iload dX5_number_9 rfl ?_
              refine Ev.Vi1 (I' := jX5_letterAt) ml_X5_75 dX5_number_11 cyX5_letterAt lm_0 rfl (by decide) ⟨by decide, by decide⟩ (by simp) rfl rfl (s_X5_letterAt' (by omega) (by simp (disch := omega) only [ev_up_ne]; omega)) (fun r σ' hr11 hq => ?_)
              obtain ⟨rfl, hq⟩ := hq
              replace hq := hq.symm
              subst hq
              try simp (disch := omega) only [ev_up_ne, ev_up_eqs, Lm_up, ev_up_up]
              refine Ev.bipush dX5_number_14 ⟨by decide, by decide⟩ (by decide) ?_
              refine Ev.icmp_lt (tgt := 65) dX5_number_16 rfl (fun c16 => ?_) (fun c16 => ?_)
              · skip
                refine (t_num (by omega) (by unfold ev_in; omega)).mono (fun r σ2 h => num_fin h ?_ ?_)
                · unfold nv
                  repeat (first | rw [if_pos (by omega)] | rw [if_neg (by omega)])
                  all_goals (try simp only [ev_up_up])
                  all_goals (congr 1; omega)
                · unfold nf
                  repeat (first | rw [if_pos (by omega)] | rw [if_neg (by omega)])
                  all_goals omega
              · skip
                refine Ev.aload_n dX5_number_19 rfl ?_
                refine Ev.iload dX5_number_20 rfl ?_
                refine Ev.Vi1 (I' := jX5_letterAt) ml_X5_75 dX5_number_22 cyX5_letterAt lm_0 rfl (by decide) ⟨by decide, by decide⟩ (by simp) rfl rfl (s_X5_letterAt' (by omega) (by simp (disch := omega) only [ev_up_ne]; omega)) (fun r σ' hr22 hq => ?_)
                obtain ⟨rfl, hq⟩ := hq
                replace hq := hq.symm
                subst hq
                try simp (disch := omega) only [ev_up_ne, ev_up_eqs, Lm_up, ev_up_up]
                refine Ev.bipush dX5_number_25 ⟨by decide, by decide⟩ (by decide) ?_
                refine Ev.icmp_gt (tgt := 65) dX5_number_27 rfl (fun c27 => ?_) (fun c27 => ?_)
                · skip
                  refine (t_num (by omega) (by unfold ev_in; omega)).mono (fun r σ2 h => num_fin h ?_ ?_)
                  · unfold nv
                    repeat (first | rw [if_pos (by omega)] | rw [if_neg (by omega)])
                    all_goals (try simp only [ev_up_up])
                    all_goals (congr 1; omega)
                  · unfold nf
                    repeat (first | rw [if_pos (by omega)] | rw [if_neg (by omega)])
                    all_goals omega
                · skip
                  refine Ev.iload dX5_number_30 rfl ?_
                  refine Ev.iload_n dX5_number_32 rfl ?_
                  refine Ev.iconst dX5_number_33 ⟨by decide, by decide⟩ ?_
                  refine Ev.iadd dX5_number_34 (by unfold ev_in; omega) ?_
                  refine Ev.icmp_ge (tgt := 65) dX5_number_35 rfl (fun c35 => ?_) (fun c35 => ?_)
                  · skip
                    refine (t_num (by omega) (by unfold ev_in; omega)).mono (fun r σ2 h => num_fin h ?_ ?_)
                    · unfold nv
                      repeat (first | rw [if_pos (by omega)] | rw [if_neg (by omega)])
                      all_goals (try simp only [ev_up_up])
                      all_goals (congr 1; omega)
                    · unfold nf
                      repeat (first | rw [if_pos (by omega)] | rw [if_neg (by omega)])
                      all_goals omega
                  · skip
                    omega
def en (L : Int → Int) (p : Int) : Nat → Int
  | 0 => p
  | k + 1 => en L p k + 1 + nf L (en L p k + 1)
def vl (L : Int → Int) (p : Int) (k : Nat) : Int := nv L (en L p k + 1)
def hst (k : Int) : Int := if k = 0 then 2 else if k = 1 then 30 else if k = 2 then 31 else if k = 3 then 9 else 60
def nok (L : Int → Int) (p : Int) (k : Nat) : Prop := (k = 0 ∨ L (en L p k) = 44) ∧ 0 < nf L (en L p k + 1) ∧ (if k = 3 then 1 else 0) ≤ vl L p k ∧ vl L p k ≤ hst (k : Int)
def itok (L : Int → Int) (p : Int) : Prop := L p = 100 ∧ (∀ k : Nat, k < 5 → nok L p k) ∧ L (en L p 5) = 59
def sp (L : Int → Int) : Nat → Int
  | 0 => 0
  | n + 1 => en L (sp L n) 5 + 1
def va (L : Int → Int) (n : Nat) (f : Nat) : Int := vl L (sp L n) f
def apt (L : Int → Int) (d n : Nat) : Prop := va L d 1 ≠ va L n 1 ∨ (va L d 2 ≠ va L n 2 ∧ va L d 2 < 31 ∧ va L n 2 < 31)
def okit (L : Int → Int) (n : Nat) : Prop := itok L (sp L n) ∧ ∀ d : Nat, d < n → apt L d n
def RdP (L : Int → Int) (len r : Int) (n : Nat) : Prop := n ≤ 6 ∧ (∀ i : Nat, i < n → sp L i < len ∧ okit L i) ∧ ((len ≤ sp L n ∧ r = -4) ∨ (sp L n < len ∧ (n = 6 ∨ ¬ okit L n) ∧ r = sp L n))
theorem en_rng {L : Int → Int} {p : Int} : ∀ k : Nat, p + (k : Int) ≤ en L p k ∧ en L p k ≤ p + 3 * (k : Int)
  | 0 => ⟨by show p + ((0 : Nat) : Int) ≤ p; omega, by show p ≤ p + 3 * ((0 : Nat) : Int); omega⟩
  | k + 1 => by
    have := en_rng (L := L) (p := p) k
    have := nf_rng (L := L) (p := en L p k + 1)
    show p + ((k + 1 : Nat) : Int) ≤ en L p k + 1 + nf L (en L p k + 1) ∧ en L p k + 1 + nf L (en L p k + 1) ≤ p + 3 * ((k + 1 : Nat) : Int)
    omega
/-- only what is read of the text has changed -/
def RF (σ σ' : ev_M) : Prop := ∀ k, ¬ (k = 15 ∨ k = 17 ∨ k = 18 ∨ (640 ≤ k ∧ k < 670)) → σ' k = σ k
theorem RF.rf {σ : ev_M} : RF σ σ := fun _ _ => rfl
theorem RF.up {σ ρ : ev_M} {n v : Int} (h : RF σ ρ) (hn : n = 15 ∨ n = 17 ∨ n = 18 ∨ (640 ≤ n ∧ n < 670)) : RF σ (ev_up ρ n v) := fun k hk => by
  rw [ev_up_ne (by intro z; subst z; exact hk hn)]
  exact h k hk
theorem RF.L {σ ρ : ev_M} {b : Int} (h : RF σ ρ) (hM : MI b σ) : ∀ p : Int, 0 ≤ p → Lm ρ p = Lm σ p := by
  intro p hp
  have := hM.s0
  unfold Lm
  rw [h 0 (by decide)]
  split
  · rw [h (100 + p) (by omega)]
  · rfl
theorem nf_c {L L' : Int → Int} {p : Int} (h : ∀ q, 0 ≤ q → L q = L' q) (hp : 0 ≤ p) : nf L p = nf L' p := by unfold nf; rw [h p hp, h (p + 1) (by omega)]
theorem nv_c {L L' : Int → Int} {p : Int} (h : ∀ q, 0 ≤ q → L q = L' q) (hp : 0 ≤ p) : nv L p = nv L' p := by unfold nv; rw [h p hp, h (p + 1) (by omega)]
theorem MI.rd {b n : Int} {τ : ev_M} (h : MI b τ) (h0 : 640 ≤ n) (h1 : n < 710) : 0 ≤ τ n ∧ τ n ≤ 99 := by
  have h2 := h n
  have e1 : mlo n = 0 := by
    unfold mlo
    rw [if_neg (by omega), if_neg (by omega), if_pos (by omega)]
  have e2 : mhi b n = 99 := by
    unfold mhi
    repeat' split
    all_goals omega
  rwa [e1, e2] at h2
theorem MI.urd {b n v : Int} {τ : ev_M} (h : MI b τ) (h0 : 640 ≤ n) (h1 : n < 710) (g0 : 0 ≤ v) (g1 : v ≤ 99) : MI b (ev_up τ n v) := by
  refine h.up ?_ ?_
  · have e1 : mlo n = 0 := by
      unfold mlo
      rw [if_neg (by omega), if_neg (by omega), if_pos (by omega)]
    rw [e1]; exact g0
  · have e2 : mhi b n = 99 := by
      unfold mhi
      repeat' split
      all_goals omega
    rw [e2]; exact g1

