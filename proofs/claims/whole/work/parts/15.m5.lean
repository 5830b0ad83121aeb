/-! the reference: what is called on one device, what is looked at -/
theorem s_X5_isDevice' {d : Int} {σ : ev_M} (h2 : 0 ≤ σ 2) : Ev jX5_isDevice layM 0 [some (rv 0), some (iv d)] [] σ (fun r σ' => ((r = 1 ∧ 0 ≤ d ∧ d < σ 2) ∨ (r = 0 ∧ ¬ (0 ≤ d ∧ d < σ 2))) ∧ σ' = σ) := (s_X5_isDevice h2).mono (fun r σ' h => ⟨by rw [h.1]; split <;> omega, h.2⟩)
def p_put (d v : Int) (τ : ev_M) : Int × ev_M := if ¬ (0 ≤ d ∧ d < τ 2 ∧ 0 ≤ v ∧ v ≤ 255) then (-1, τ) else if τ (300 + (18 * d + 15)) = 12 then (-3, τ) else (τ (300 + (18 * d + 15)) + 1, ev_up (ev_up τ (420 + (24 * d + τ (300 + (18 * d + 15)))) v) (300 + (18 * d + 15)) (τ (300 + (18 * d + 15)) + 1))
def p_ask (d s a : Int) (τ : ev_M) : Int × ev_M := if ¬ (0 ≤ d ∧ d < τ 2 ∧ 0 ≤ s ∧ s ≤ 63 ∧ 0 ≤ a ∧ a ≤ 1) then (-1, τ) else (τ (300 + (18 * d + 9)) + 64 * τ (300 + (18 * d + 10)), ev_up (ev_up τ (300 + (18 * d + 9)) s) (300 + (18 * d + 10)) a)
def p_front (d : Int) (τ : ev_M) : Int × ev_M := if ¬ (0 ≤ d ∧ d < τ 2) then (-1, τ) else if τ (300 + (18 * d + 8)) = 0 then (1, ev_up τ (300 + (18 * d + 7)) 0) else (1 - τ (300 + (18 * d + 7)), τ)
def p_tune (d a v : Int) (τ : ev_M) : Int × ev_M := if ¬ (0 ≤ d ∧ d < τ 2 ∧ 0 ≤ a ∧ a ≤ 1 ∧ 1 - a ≤ v ∧ v ≤ (if a = 0 then 9 else 60)) then (-1, τ) else if τ (300 + (18 * d + (3 + a))) = v then (-2, τ) else (τ (300 + (18 * d + (3 + a))), ev_up τ (300 + (18 * d + (3 + a))) v)
def p_device (d a : Int) (τ : ev_M) : Int × ev_M := (if ¬ (0 ≤ d ∧ d < τ 2 ∧ 0 ≤ a ∧ a ≤ 17) then -1 else if a = 12 then (if τ (300 + (18 * d + 11)) < 0 then -4 else τ (300 + (18 * d + 12))) else if a = 14 ∧ 0 ≤ τ (300 + (18 * d + 14)) then τ (300 + (18 * d + 14)) - τ 7 else τ (300 + (18 * d + a)), τ)
def p_row (d a i : Int) (τ : ev_M) : Int × ev_M := (if ¬ (0 ≤ d ∧ d < τ 2 ∧ 0 ≤ a ∧ a ≤ 1 ∧ 0 ≤ i) then -1 else if i < τ (300 + (18 * d + (15 + a))) then τ (420 + (24 * d + 12 * a + i)) else -4, τ)
def p_sum (a : Int) (τ : ev_M) : Int × ev_M := (if 0 ≤ a ∧ a ≤ 7 then τ (570 + a) else -1, τ)
def p_log (i a : Int) (τ : ev_M) : Int × ev_M := (if i < -1 ∨ ¬ (0 ≤ a ∧ a ≤ 2) then -1 else if i < 0 then τ 11 else if τ 11 ≤ i then -4 else if a = 0 then τ (580 + i) else if a = 1 then τ (600 + i) else τ (620 + i), τ)
def p_tick (n : Int) (τ : ev_M) : Int × ev_M := if 1 ≤ n ∧ n ≤ 500 then (m_ticks τ n.toNat 7, m_ticks τ n.toNat) else (-1, τ)
def p_command (c : Int) (τ : ev_M) : Int × ev_M := if 0 ≤ c ∧ c ≤ 127 then (m_sends c τ 7, m_sends c τ) else (-1, τ)
def p_takeBack (τ : ev_M) : Int × ev_M := (τ 5, ev_up (ev_up (ev_up (it (m_all 17 0) (it (m_all 6 0) (it (m_all 5 0) τ (τ 2).toNat) (τ 2).toNat) (τ 2).toNat) 9 0) 6 0) 5 0)
theorem s_X5_put {b d v : Int} {σ : ev_M} (hM : MI b σ) (hb : b ≤ 1000000000) : Ev jX5_put layM 0 [some (rv 0), some (iv d), some (iv v), none] [] σ (fun r σ' => (r, σ') = p_put d v σ) := by
  have h2 := hM.s2
  refine Ev.aload_n dX5_put_0 rfl ?_
  refine Ev.iload_n dX5_put_1 rfl ?_
  refine Ev.Vi1 (I' := jX5_isDevice) ml_X5_170 dX5_put_2 cyX5_isDevice lm_0 rfl (by decide) ⟨by decide, by decide⟩ (by simp) rfl rfl (s_X5_isDevice' (by omega)) (fun r σ' hr2 hq => ?_)
  obtain ⟨hq1, hq⟩ := hq
  replace hq := hq.symm
  subst hq
  refine Ev.if_eq (tgt := 19) dX5_put_5 rfl (fun c5 => ?_) (fun c5 => ?_)
  · skip
    refine Ev.iconst dX5_put_19 ⟨by decide, by decide⟩ ?_
    refine Ev.int rfl dX5_put_20 ?_
    unfold p_put
    repeat (first | rw [if_pos (by omega)] | rw [if_neg (by omega)])
    all_goals rfl
  · skip
    refine Ev.iload_n dX5_put_8 rfl ?_
    refine Ev.iconst dX5_put_9 ⟨by decide, by decide⟩ ?_
    refine Ev.sipush dX5_put_10 ⟨by decide, by decide⟩ (by decide) ?_
    refine Ev.Si3 (I' := jX5_isIn) ml_X5_82 dX5_put_13 cyX5_isIn (by decide) ⟨by decide, by decide⟩ (by simp) rfl rfl (s_X5_isIn') (fun r σ' hr13 hq => ?_)
    obtain ⟨hq1, hq⟩ := hq
    replace hq := hq.symm
    subst hq
    refine Ev.if_ne (tgt := 21) dX5_put_16 rfl (fun c16 => ?_) (fun c16 => ?_)
    · skip
      refine Ev.aload_n dX5_put_21 rfl ?_
      refine Ev.iload_n dX5_put_22 rfl ?_
      refine Ev.bipush dX5_put_23 ⟨by decide, by decide⟩ (by decide) ?_
      refine Ev.Vi2 (I' := jX5_of) ml_X5_100 dX5_put_25 cyX5_of lm_0 rfl (by decide) ⟨by decide, by decide⟩ (by simp) rfl rfl (s_X5_of (by omega) (by omega) (by omega) (by omega)) (fun r σ' hr25 hq => ?_)
      obtain ⟨rfl, hq⟩ := hq
      replace hq := hq.symm
      subst hq
      have a15 := hM.h15 (d := d) (by omega) (by omega)
      refine Ev.istore3 rfl dX5_put_28 ?_
      refine Ev.iload_n dX5_put_29 rfl ?_
      refine Ev.bipush dX5_put_30 ⟨by decide, by decide⟩ (by decide) ?_
      refine Ev.icmp_ne (tgt := 38) dX5_put_32 rfl (fun c32 => ?_) (fun c32 => ?_)
      · skip
        refine Ev.aload_n dX5_put_38 rfl ?_
        refine Ev.getr (420) dX5_put_39 fl_X5_16 lm_0 (by decide) rfl rfl ?_
        refine Ev.bipush dX5_put_42 ⟨by decide, by decide⟩ (by decide) ?_
        refine Ev.iload_n dX5_put_44 rfl ?_
        refine Ev.imul dX5_put_45 (by unfold ev_in; omega) ?_
        refine Ev.iload_n dX5_put_46 rfl ?_
        refine Ev.iadd dX5_put_47 (by unfold ev_in; omega) ?_
        refine Ev.iload_n dX5_put_48 rfl ?_
        refine Ev.iast dX5_put_49 lm_420 (by omega) (by omega) ?_
        refine Ev.aload_n dX5_put_50 rfl ?_
        refine Ev.iload_n dX5_put_51 rfl ?_
        refine Ev.bipush dX5_put_52 ⟨by decide, by decide⟩ (by decide) ?_
        refine Ev.iload_n dX5_put_54 rfl ?_
        refine Ev.iconst dX5_put_55 ⟨by decide, by decide⟩ ?_
        refine Ev.iadd dX5_put_56 (by unfold ev_in; omega) ?_
        refine Ev.Vv3 (I' := jX5_puts) ml_X5_47 dX5_put_57 cyX5_puts lm_0 rfl (by decide) ⟨by decide, by decide⟩ (by simp) rfl rfl (s_X5_puts (by omega) (by omega) (by omega) (by omega)) (fun σ' hq => ?_)
        subst hq
        refine Ev.iload_n dX5_put_60 rfl ?_
        refine Ev.iconst dX5_put_61 ⟨by decide, by decide⟩ ?_
        refine Ev.iadd dX5_put_62 (by unfold ev_in; omega) ?_
        refine Ev.int rfl dX5_put_63 ?_
        unfold p_put
        repeat (first | rw [if_pos (by omega)] | rw [if_neg (by omega)])
        all_goals rfl
      · skip
        refine Ev.bipush dX5_put_35 ⟨by decide, by decide⟩ (by decide) ?_
        refine Ev.int rfl dX5_put_37 ?_
        unfold p_put
        repeat (first | rw [if_pos (by omega)] | rw [if_neg (by omega)])
        all_goals rfl
    · skip
      refine Ev.iconst dX5_put_19 ⟨by decide, by decide⟩ ?_
      refine Ev.int rfl dX5_put_20 ?_
      unfold p_put
      repeat (first | rw [if_pos (by omega)] | rw [if_neg (by omega)])
      all_goals rfl
theorem s_X5_ask {b d s a : Int} {σ : ev_M} (hM : MI b σ) (hb : b ≤ 1000000000) : Ev jX5_ask layM 0 [some (rv 0), some (iv d), some (iv s), some (iv a), none] [] σ (fun r σ' => (r, σ') = p_ask d s a σ) := by
  have h2 := hM.s2
  refine Ev.aload_n dX5_ask_0 rfl ?_
  refine Ev.iload_n dX5_ask_1 rfl ?_
  refine Ev.Vi1 (I' := jX5_isDevice) ml_X5_170 dX5_ask_2 cyX5_isDevice lm_0 rfl (by decide) ⟨by decide, by decide⟩ (by simp) rfl rfl (s_X5_isDevice' (by omega)) (fun r σ' hr2 hq => ?_)
  obtain ⟨hq1, hq⟩ := hq
  replace hq := hq.symm
  subst hq
  refine Ev.if_eq (tgt := 27) dX5_ask_5 rfl (fun c5 => ?_) (fun c5 => ?_)
  · skip
    refine Ev.iconst dX5_ask_27 ⟨by decide, by decide⟩ ?_
    refine Ev.int rfl dX5_ask_28 ?_
    unfold p_ask
    repeat (first | rw [if_pos (by omega)] | rw [if_neg (by omega)])
    all_goals rfl
  · skip
    refine Ev.iload_n dX5_ask_8 rfl ?_
    refine Ev.iconst dX5_ask_9 ⟨by decide, by decide⟩ ?_
    refine Ev.bipush dX5_ask_10 ⟨by decide, by decide⟩ (by decide) ?_
    refine Ev.Si3 (I' := jX5_isIn) ml_X5_82 dX5_ask_12 cyX5_isIn (by decide) ⟨by decide, by decide⟩ (by simp) rfl rfl (s_X5_isIn') (fun r σ' hr12 hq => ?_)
    obtain ⟨hq1, hq⟩ := hq
    replace hq := hq.symm
    subst hq
    refine Ev.if_eq (tgt := 27) dX5_ask_15 rfl (fun c15 => ?_) (fun c15 => ?_)
    · skip
      refine Ev.iconst dX5_ask_27 ⟨by decide, by decide⟩ ?_
      refine Ev.int rfl dX5_ask_28 ?_
      unfold p_ask
      repeat (first | rw [if_pos (by omega)] | rw [if_neg (by omega)])
      all_goals rfl
    · skip
      refine Ev.iload_n dX5_ask_18 rfl ?_
      refine Ev.iconst dX5_ask_19 ⟨by decide, by decide⟩ ?_
      refine Ev.iconst dX5_ask_20 ⟨by decide, by decide⟩ ?_
      refine Ev.Si3 (I' := jX5_isIn) ml_X5_82 dX5_ask_21 cyX5_isIn (by decide) ⟨by decide, by decide⟩ (by simp) rfl rfl (s_X5_isIn') (fun r σ' hr21 hq => ?_)
      obtain ⟨hq1, hq⟩ := hq
      replace hq := hq.symm
      subst hq
      refine Ev.if_ne (tgt := 29) dX5_ask_24 rfl (fun c24 => ?_) (fun c24 => ?_)
      · skip
        refine Ev.aload_n dX5_ask_29 rfl ?_
        refine Ev.iload_n dX5_ask_30 rfl ?_
        refine Ev.bipush dX5_ask_31 ⟨by decide, by decide⟩ (by decide) ?_
        refine Ev.Vi2 (I' := jX5_of) ml_X5_100 dX5_ask_33 cyX5_of lm_0 rfl (by decide) ⟨by decide, by decide⟩ (by simp) rfl rfl (s_X5_of (by omega) (by omega) (by omega) (by omega)) (fun r σ' hr33 hq => ?_)
        obtain ⟨rfl, hq⟩ := hq
        replace hq := hq.symm
        subst hq
        refine Ev.bipush dX5_ask_36 ⟨by decide, by decide⟩ (by decide) ?_
        refine Ev.aload_n dX5_ask_38 rfl ?_
        refine Ev.iload_n dX5_ask_39 rfl ?_
        refine Ev.bipush dX5_ask_40 ⟨by decide, by decide⟩ (by decide) ?_
        refine Ev.Vi2 (I' := jX5_of) ml_X5_100 dX5_ask_42 cyX5_of lm_0 rfl (by decide) ⟨by decide, by decide⟩ (by simp) rfl rfl (s_X5_of (by omega) (by omega) (by omega) (by omega)) (fun r σ' hr42 hq => ?_)
        obtain ⟨rfl, hq⟩ := hq
        replace hq := hq.symm
        subst hq
        have a10 := hM.h10 (d := d) (by omega) (by omega)
        refine Ev.imul dX5_ask_45 (by unfold ev_in; omega) ?_
        have a9 := hM.h9 (d := d) (by omega) (by omega)
        refine Ev.iadd dX5_ask_46 (by unfold ev_in; omega) ?_
        refine Ev.istore4 dX5_ask_47 ?_
        refine Ev.aload_n dX5_ask_49 rfl ?_
        refine Ev.iload_n dX5_ask_50 rfl ?_
        refine Ev.bipush dX5_ask_51 ⟨by decide, by decide⟩ (by decide) ?_
        refine Ev.iload_n dX5_ask_53 rfl ?_
        refine Ev.Vv3 (I' := jX5_puts) ml_X5_47 dX5_ask_54 cyX5_puts lm_0 rfl (by decide) ⟨by decide, by decide⟩ (by simp) rfl rfl (s_X5_puts (by omega) (by omega) (by omega) (by omega)) (fun σ' hq => ?_)
        subst hq
        refine Ev.aload_n dX5_ask_57 rfl ?_
        refine Ev.iload_n dX5_ask_58 rfl ?_
        refine Ev.bipush dX5_ask_59 ⟨by decide, by decide⟩ (by decide) ?_
        refine Ev.iload_n dX5_ask_61 rfl ?_
        refine Ev.Vv3 (I' := jX5_puts) ml_X5_47 dX5_ask_62 cyX5_puts lm_0 rfl (by decide) ⟨by decide, by decide⟩ (by simp) rfl rfl (s_X5_puts (by omega) (by omega) (by omega) (by omega)) (fun σ' hq => ?_)
        subst hq
        refine Ev.iload dX5_ask_65 rfl ?_
        refine Ev.int rfl dX5_ask_67 ?_
        unfold p_ask
        repeat (first | rw [if_pos (by omega)] | rw [if_neg (by omega)])
        all_goals rfl
      · skip
        refine Ev.iconst dX5_ask_27 ⟨by decide, by decide⟩ ?_
        refine Ev.int rfl dX5_ask_28 ?_
        unfold p_ask
        repeat (first | rw [if_pos (by omega)] | rw [if_neg (by omega)])
        all_goals rfl
theorem s_X5_front {b d : Int} {σ : ev_M} (hM : MI b σ) (hb : b ≤ 1000000000) : Ev jX5_front layM 0 [some (rv 0), some (iv d)] [] σ (fun r σ' => (r, σ') = p_front d σ) := by
  have h2 := hM.s2
  refine Ev.aload_n dX5_front_0 rfl ?_
  refine Ev.iload_n dX5_front_1 rfl ?_
  refine Ev.Vi1 (I' := jX5_isDevice) ml_X5_170 dX5_front_2 cyX5_isDevice lm_0 rfl (by decide) ⟨by decide, by decide⟩ (by simp) rfl rfl (s_X5_isDevice' (by omega)) (fun r σ' hr2 hq => ?_)
  obtain ⟨hq1, hq⟩ := hq
  replace hq := hq.symm
  subst hq
  refine Ev.if_ne (tgt := 10) dX5_front_5 rfl (fun c5 => ?_) (fun c5 => ?_)
  · skip
    refine Ev.aload_n dX5_front_10 rfl ?_
    refine Ev.iload_n dX5_front_11 rfl ?_
    refine Ev.bipush dX5_front_12 ⟨by decide, by decide⟩ (by decide) ?_
    refine Ev.Vi2 (I' := jX5_of) ml_X5_100 dX5_front_14 cyX5_of lm_0 rfl (by decide) ⟨by decide, by decide⟩ (by simp) rfl rfl (s_X5_of (by omega) (by omega) (by omega) (by omega)) (fun r σ' hr14 hq => ?_)
    obtain ⟨rfl, hq⟩ := hq
    replace hq := hq.symm
    subst hq
    refine Ev.if_ne (tgt := 28) dX5_front_17 rfl (fun c17 => ?_) (fun c17 => ?_)
    · skip
      refine Ev.iconst dX5_front_28 ⟨by decide, by decide⟩ ?_
      refine Ev.aload_n dX5_front_29 rfl ?_
      refine Ev.iload_n dX5_front_30 rfl ?_
      refine Ev.bipush dX5_front_31 ⟨by decide, by decide⟩ (by decide) ?_
      refine Ev.Vi2 (I' := jX5_of) ml_X5_100 dX5_front_33 cyX5_of lm_0 rfl (by decide) ⟨by decide, by decide⟩ (by simp) rfl rfl (s_X5_of (by omega) (by omega) (by omega) (by omega)) (fun r σ' hr33 hq => ?_)
      obtain ⟨rfl, hq⟩ := hq
      replace hq := hq.symm
      subst hq
      have a7 := hM.h7 (d := d) (by omega) (by omega)
      refine Ev.isub dX5_front_36 (by unfold ev_in; omega) ?_
      refine Ev.int rfl dX5_front_37 ?_
      unfold p_front
      repeat (first | rw [if_pos (by omega)] | rw [if_neg (by omega)])
      all_goals rfl
    · skip
      refine Ev.aload_n dX5_front_20 rfl ?_
      refine Ev.iload_n dX5_front_21 rfl ?_
      refine Ev.bipush dX5_front_22 ⟨by decide, by decide⟩ (by decide) ?_
      refine Ev.iconst dX5_front_24 ⟨by decide, by decide⟩ ?_
      refine Ev.Vv3 (I' := jX5_puts) ml_X5_47 dX5_front_25 cyX5_puts lm_0 rfl (by decide) ⟨by decide, by decide⟩ (by simp) rfl rfl (s_X5_puts (by omega) (by omega) (by omega) (by omega)) (fun σ' hq => ?_)
      subst hq
      refine Ev.iconst dX5_front_28 ⟨by decide, by decide⟩ ?_
      refine Ev.aload_n dX5_front_29 rfl ?_
      refine Ev.iload_n dX5_front_30 rfl ?_
      refine Ev.bipush dX5_front_31 ⟨by decide, by decide⟩ (by decide) ?_
      refine Ev.Vi2 (I' := jX5_of) ml_X5_100 dX5_front_33 cyX5_of lm_0 rfl (by decide) ⟨by decide, by decide⟩ (by simp) rfl rfl (s_X5_of (by omega) (by omega) (by omega) (by omega)) (fun r σ' hr33 hq => ?_)
      obtain ⟨rfl, hq⟩ := hq
      replace hq := hq.symm
      subst hq
      try simp (disch := omega) only [ev_up_ne, ev_up_eqs]
      have a7 := hM.h7 (d := d) (by omega) (by omega)
      refine Ev.isub dX5_front_36 (by unfold ev_in; omega) ?_
      refine Ev.int rfl dX5_front_37 ?_
      unfold p_front
      repeat (first | rw [if_pos (by omega)] | rw [if_neg (by omega)])
      all_goals rfl
  · skip
    refine Ev.iconst dX5_front_8 ⟨by decide, by decide⟩ ?_
    refine Ev.int rfl dX5_front_9 ?_
    unfold p_front
    repeat (first | rw [if_pos (by omega)] | rw [if_neg (by omega)])
    all_goals rfl
theorem s_X5_tune {b d a v : Int} {σ : ev_M} (hM : MI b σ) (hb : b ≤ 1000000000) : Ev jX5_tune layM 0 [some (rv 0), some (iv d), some (iv a), some (iv v), none] [] σ (fun r σ' => (r, σ') = p_tune d a v σ) := by
  have h2 := hM.s2
  refine Ev.aload_n dX5_tune_0 rfl ?_
  refine Ev.iload_n dX5_tune_1 rfl ?_
  refine Ev.Vi1 (I' := jX5_isDevice) ml_X5_170 dX5_tune_2 cyX5_isDevice lm_0 rfl (by decide) ⟨by decide, by decide⟩ (by simp) rfl rfl (s_X5_isDevice' (by omega)) (fun r σ' hr2 hq => ?_)
  obtain ⟨hq1, hq⟩ := hq
  replace hq := hq.symm
  subst hq
  refine Ev.if_eq (tgt := 33) dX5_tune_5 rfl (fun c5 => ?_) (fun c5 => ?_)
  · skip
    refine Ev.iconst dX5_tune_33 ⟨by decide, by decide⟩ ?_
    refine Ev.int rfl dX5_tune_34 ?_
    unfold p_tune
    try rw [← hr9]
    repeat (first | rw [if_pos (by omega)] | rw [if_neg (by omega)])
  · skip
    refine Ev.iload_n dX5_tune_8 rfl ?_
    refine Ev.iconst dX5_tune_9 ⟨by decide, by decide⟩ ?_
    refine Ev.iconst dX5_tune_10 ⟨by decide, by decide⟩ ?_
    refine Ev.Si3 (I' := jX5_isIn) ml_X5_82 dX5_tune_11 cyX5_isIn (by decide) ⟨by decide, by decide⟩ (by simp) rfl rfl (s_X5_isIn') (fun r σ' hr11 hq => ?_)
    obtain ⟨hq1, hq⟩ := hq
    replace hq := hq.symm
    subst hq
    refine Ev.if_eq (tgt := 33) dX5_tune_14 rfl (fun c14 => ?_) (fun c14 => ?_)
    · skip
      refine Ev.iconst dX5_tune_33 ⟨by decide, by decide⟩ ?_
      refine Ev.int rfl dX5_tune_34 ?_
      unfold p_tune
      try rw [← hr9]
      repeat (first | rw [if_pos (by omega)] | rw [if_neg (by omega)])
    · skip
      have ea : a = 0 ∨ a = 1 := by omega
      refine Ev.iload_n dX5_tune_17 rfl ?_
      refine Ev.iconst dX5_tune_18 ⟨by decide, by decide⟩ ?_
      refine Ev.iload_n dX5_tune_19 rfl ?_
      refine Ev.isub dX5_tune_20 (by unfold ev_in; omega) ?_
      refine Ev.iconst dX5_tune_21 ⟨by decide, by decide⟩ ?_
      refine Ev.iload_n dX5_tune_22 rfl ?_
      refine Ev.iadd dX5_tune_23 (by unfold ev_in; omega) ?_
      refine Ev.Si1 (I' := jX5_highest) ml_X5_86 dX5_tune_24 cyX5_highest (by decide) ⟨by decide, by decide⟩ (by simp) rfl rfl (s_X5_highest) (fun r σ' hr24 hq => ?_)
      obtain ⟨hq2, hq⟩ := hq
      replace hq := hq.symm
      subst hq
      have hr9 : r = (if a = 0 then 9 else 60) := by rcases ea with rfl | rfl <;> simpa using hq2
      clear hq2
      refine Ev.Si3 (I' := jX5_isIn) ml_X5_82 dX5_tune_27 cyX5_isIn (by decide) ⟨by decide, by decide⟩ (by simp) rfl rfl (s_X5_isIn') (fun r σ' hr27 hq => ?_)
      obtain ⟨hq1, hq⟩ := hq
      replace hq := hq.symm
      subst hq
      refine Ev.if_ne (tgt := 35) dX5_tune_30 rfl (fun c30 => ?_) (fun c30 => ?_)
      · skip
        refine Ev.aload_n dX5_tune_35 rfl ?_
        refine Ev.iload_n dX5_tune_36 rfl ?_
        refine Ev.iconst dX5_tune_37 ⟨by decide, by decide⟩ ?_
        refine Ev.iload_n dX5_tune_38 rfl ?_
        refine Ev.iadd dX5_tune_39 (by unfold ev_in; omega) ?_
        refine Ev.Vi2 (I' := jX5_of) ml_X5_100 dX5_tune_40 cyX5_of lm_0 rfl (by decide) ⟨by decide, by decide⟩ (by simp) rfl rfl (s_X5_of (by omega) (by omega) (by omega) (by omega)) (fun r σ' hr40 hq => ?_)
        obtain ⟨rfl, hq⟩ := hq
        replace hq := hq.symm
        subst hq
        refine Ev.istore4 dX5_tune_43 ?_
        refine Ev.iload dX5_tune_45 rfl ?_
        refine Ev.iload_n dX5_tune_47 rfl ?_
        refine Ev.icmp_ne (tgt := 54) dX5_tune_48 rfl (fun c48 => ?_) (fun c48 => ?_)
        · skip
          refine Ev.aload_n dX5_tune_54 rfl ?_
          refine Ev.iload_n dX5_tune_55 rfl ?_
          refine Ev.iconst dX5_tune_56 ⟨by decide, by decide⟩ ?_
          refine Ev.iload_n dX5_tune_57 rfl ?_
          refine Ev.iadd dX5_tune_58 (by unfold ev_in; omega) ?_
          refine Ev.iload_n dX5_tune_59 rfl ?_
          refine Ev.Vv3 (I' := jX5_puts) ml_X5_47 dX5_tune_60 cyX5_puts lm_0 rfl (by decide) ⟨by decide, by decide⟩ (by simp) rfl rfl (s_X5_puts (by omega) (by omega) (by omega) (by omega)) (fun σ' hq => ?_)
          subst hq
          refine Ev.iload dX5_tune_63 rfl ?_
          refine Ev.int rfl dX5_tune_65 ?_
          unfold p_tune
          try rw [← hr9]
          repeat (first | rw [if_pos (by omega)] | rw [if_neg (by omega)])
        · skip
          refine Ev.bipush dX5_tune_51 ⟨by decide, by decide⟩ (by decide) ?_
          refine Ev.int rfl dX5_tune_53 ?_
          unfold p_tune
          try rw [← hr9]
          repeat (first | rw [if_pos (by omega)] | rw [if_neg (by omega)])
      · skip
        refine Ev.iconst dX5_tune_33 ⟨by decide, by decide⟩ ?_
        refine Ev.int rfl dX5_tune_34 ?_
        unfold p_tune
        try rw [← hr9]
        repeat (first | rw [if_pos (by omega)] | rw [if_neg (by omega)])
theorem s_X5_device {b d a : Int} {σ : ev_M} (hM : MI b σ) (hb : b ≤ 1000000000) : Ev jX5_device layM 0 [some (rv 0), some (iv d), some (iv a)] [] σ (fun r σ' => (r, σ') = p_device d a σ) := by
  have h2 := hM.s2
  refine Ev.aload_n dX5_device_0 rfl ?_
  refine Ev.iload_n dX5_device_1 rfl ?_
  refine Ev.Vi1 (I' := jX5_isDevice) ml_X5_170 dX5_device_2 cyX5_isDevice lm_0 rfl (by decide) ⟨by decide, by decide⟩ (by simp) rfl rfl (s_X5_isDevice' (by omega)) (fun r σ' hr2 hq => ?_)
  obtain ⟨hq1, hq⟩ := hq
  replace hq := hq.symm
  subst hq
  refine Ev.if_eq (tgt := 18) dX5_device_5 rfl (fun c5 => ?_) (fun c5 => ?_)
  · skip
    refine Ev.iconst dX5_device_18 ⟨by decide, by decide⟩ ?_
    refine Ev.int rfl dX5_device_19 ?_
    unfold p_device
    repeat (first | rw [if_pos (by omega)] | rw [if_neg (by omega)])
    all_goals rfl
  · skip
    refine Ev.iload_n dX5_device_8 rfl ?_
    refine Ev.iconst dX5_device_9 ⟨by decide, by decide⟩ ?_
    refine Ev.bipush dX5_device_10 ⟨by decide, by decide⟩ (by decide) ?_
    refine Ev.Si3 (I' := jX5_isIn) ml_X5_82 dX5_device_12 cyX5_isIn (by decide) ⟨by decide, by decide⟩ (by simp) rfl rfl (s_X5_isIn') (fun r σ' hr12 hq => ?_)
    obtain ⟨hq1, hq⟩ := hq
    replace hq := hq.symm
    subst hq
    refine Ev.if_ne (tgt := 20) dX5_device_15 rfl (fun c15 => ?_) (fun c15 => ?_)
    · skip
      refine Ev.iload_n dX5_device_20 rfl ?_
      refine Ev.bipush dX5_device_21 ⟨by decide, by decide⟩ (by decide) ?_
      refine Ev.icmp_ne (tgt := 49) dX5_device_23 rfl (fun c23 => ?_) (fun c23 => ?_)
      · skip
        refine Ev.iload_n dX5_device_49 rfl ?_
        refine Ev.bipush dX5_device_50 ⟨by decide, by decide⟩ (by decide) ?_
        refine Ev.icmp_ne (tgt := 80) dX5_device_52 rfl (fun c52 => ?_) (fun c52 => ?_)
        · skip
          refine Ev.aload_n dX5_device_80 rfl ?_
          refine Ev.iload_n dX5_device_81 rfl ?_
          refine Ev.iload_n dX5_device_82 rfl ?_
          refine Ev.Vi2 (I' := jX5_of) ml_X5_100 dX5_device_83 cyX5_of lm_0 rfl (by decide) ⟨by decide, by decide⟩ (by simp) rfl rfl (s_X5_of (by omega) (by omega) (by omega) (by omega)) (fun r σ' hr83 hq => ?_)
          obtain ⟨rfl, hq⟩ := hq
          replace hq := hq.symm
          subst hq
          refine Ev.int rfl dX5_device_86 ?_
          unfold p_device
          repeat (first | rw [if_pos (by omega)] | rw [if_neg (by omega)])
          all_goals rfl
        · skip
          refine Ev.aload_n dX5_device_55 rfl ?_
          refine Ev.iload_n dX5_device_56 rfl ?_
          refine Ev.bipush dX5_device_57 ⟨by decide, by decide⟩ (by decide) ?_
          refine Ev.Vi2 (I' := jX5_of) ml_X5_100 dX5_device_59 cyX5_of lm_0 rfl (by decide) ⟨by decide, by decide⟩ (by simp) rfl rfl (s_X5_of (by omega) (by omega) (by omega) (by omega)) (fun r σ' hr59 hq => ?_)
          obtain ⟨rfl, hq⟩ := hq
          replace hq := hq.symm
          subst hq
          refine Ev.if_lt (tgt := 80) dX5_device_62 rfl (fun c62 => ?_) (fun c62 => ?_)
          · skip
            refine Ev.aload_n dX5_device_80 rfl ?_
            refine Ev.iload_n dX5_device_81 rfl ?_
            refine Ev.iload_n dX5_device_82 rfl ?_
            refine Ev.Vi2 (I' := jX5_of) ml_X5_100 dX5_device_83 cyX5_of lm_0 rfl (by decide) ⟨by decide, by decide⟩ (by simp) rfl rfl (s_X5_of (by omega) (by omega) (by omega) (by omega)) (fun r σ' hr83 hq => ?_)
            obtain ⟨rfl, hq⟩ := hq
            replace hq := hq.symm
            subst hq
            refine Ev.int rfl dX5_device_86 ?_
            unfold p_device
            repeat (first | rw [if_pos (by omega)] | rw [if_neg (by omega)])
            all_goals rfl
          · skip
            refine Ev.aload_n dX5_device_65 rfl ?_
            refine Ev.iload_n dX5_device_66 rfl ?_
            refine Ev.bipush dX5_device_67 ⟨by decide, by decide⟩ (by decide) ?_
            refine Ev.Vi2 (I' := jX5_of) ml_X5_100 dX5_device_69 cyX5_of lm_0 rfl (by decide) ⟨by decide, by decide⟩ (by simp) rfl rfl (s_X5_of (by omega) (by omega) (by omega) (by omega)) (fun r σ' hr69 hq => ?_)
            obtain ⟨rfl, hq⟩ := hq
            replace hq := hq.symm
            subst hq
            refine Ev.aload_n dX5_device_72 rfl ?_
            refine Ev.geti (7) dX5_device_73 fl_X5_57 lm_0 (by decide) rfl rfl ?_
            have a14 := hM.h14 (d := d) (by omega) (by omega)
            have a7 := hM.s7
            refine Ev.isub dX5_device_76 (by unfold ev_in; omega) ?_
            refine Ev.goto (tgt := 86) dX5_device_77 rfl ?_
            refine Ev.int rfl dX5_device_86 ?_
            unfold p_device
            repeat (first | rw [if_pos (by omega)] | rw [if_neg (by omega)])
            all_goals rfl
      · skip
        refine Ev.aload_n dX5_device_26 rfl ?_
        refine Ev.iload_n dX5_device_27 rfl ?_
        refine Ev.bipush dX5_device_28 ⟨by decide, by decide⟩ (by decide) ?_
        refine Ev.Vi2 (I' := jX5_of) ml_X5_100 dX5_device_30 cyX5_of lm_0 rfl (by decide) ⟨by decide, by decide⟩ (by simp) rfl rfl (s_X5_of (by omega) (by omega) (by omega) (by omega)) (fun r σ' hr30 hq => ?_)
        obtain ⟨rfl, hq⟩ := hq
        replace hq := hq.symm
        subst hq
        refine Ev.if_ge (tgt := 41) dX5_device_33 rfl (fun c33 => ?_) (fun c33 => ?_)
        · skip
          refine Ev.aload_n dX5_device_41 rfl ?_
          refine Ev.iload_n dX5_device_42 rfl ?_
          refine Ev.bipush dX5_device_43 ⟨by decide, by decide⟩ (by decide) ?_
          refine Ev.Vi2 (I' := jX5_of) ml_X5_100 dX5_device_45 cyX5_of lm_0 rfl (by decide) ⟨by decide, by decide⟩ (by simp) rfl rfl (s_X5_of (by omega) (by omega) (by omega) (by omega)) (fun r σ' hr45 hq => ?_)
          obtain ⟨rfl, hq⟩ := hq
          replace hq := hq.symm
          subst hq
          refine Ev.int rfl dX5_device_48 ?_
          unfold p_device
          repeat (first | rw [if_pos (by omega)] | rw [if_neg (by omega)])
          all_goals rfl
        · skip
          refine Ev.bipush dX5_device_36 ⟨by decide, by decide⟩ (by decide) ?_
          refine Ev.goto (tgt := 48) dX5_device_38 rfl ?_
          refine Ev.int rfl dX5_device_48 ?_
          unfold p_device
          repeat (first | rw [if_pos (by omega)] | rw [if_neg (by omega)])
          all_goals rfl
    · skip
      refine Ev.iconst dX5_device_18 ⟨by decide, by decide⟩ ?_
      refine Ev.int rfl dX5_device_19 ?_
      unfold p_device
      repeat (first | rw [if_pos (by omega)] | rw [if_neg (by omega)])
      all_goals rfl
theorem s_X5_row {b d a i : Int} {σ : ev_M} (hM : MI b σ) (hb : b ≤ 1000000000) : Ev jX5_row layM 0 [some (rv 0), some (iv d), some (iv a), some (iv i)] [] σ (fun r σ' => (r, σ') = p_row d a i σ) := by
  have h2 := hM.s2
  refine Ev.aload_n dX5_row_0 rfl ?_
  refine Ev.iload_n dX5_row_1 rfl ?_
  refine Ev.Vi1 (I' := jX5_isDevice) ml_X5_170 dX5_row_2 cyX5_isDevice lm_0 rfl (by decide) ⟨by decide, by decide⟩ (by simp) rfl rfl (s_X5_isDevice' (by omega)) (fun r σ' hr2 hq => ?_)
  obtain ⟨hq1, hq⟩ := hq
  replace hq := hq.symm
  subst hq
  refine Ev.if_eq (tgt := 21) dX5_row_5 rfl (fun c5 => ?_) (fun c5 => ?_)
  · skip
    refine Ev.iconst dX5_row_21 ⟨by decide, by decide⟩ ?_
    refine Ev.int rfl dX5_row_22 ?_
    unfold p_row
    repeat (first | rw [if_pos (by omega)] | rw [if_neg (by omega)])
    all_goals rfl
  · skip
    refine Ev.iload_n dX5_row_8 rfl ?_
    refine Ev.iconst dX5_row_9 ⟨by decide, by decide⟩ ?_
    refine Ev.iconst dX5_row_10 ⟨by decide, by decide⟩ ?_
    refine Ev.Si3 (I' := jX5_isIn) ml_X5_82 dX5_row_11 cyX5_isIn (by decide) ⟨by decide, by decide⟩ (by simp) rfl rfl (s_X5_isIn') (fun r σ' hr11 hq => ?_)
    obtain ⟨hq1, hq⟩ := hq
    replace hq := hq.symm
    subst hq
    refine Ev.if_eq (tgt := 21) dX5_row_14 rfl (fun c14 => ?_) (fun c14 => ?_)
    · skip
      refine Ev.iconst dX5_row_21 ⟨by decide, by decide⟩ ?_
      refine Ev.int rfl dX5_row_22 ?_
      unfold p_row
      repeat (first | rw [if_pos (by omega)] | rw [if_neg (by omega)])
      all_goals rfl
    · skip
      refine Ev.iload_n dX5_row_17 rfl ?_
      refine Ev.if_ge (tgt := 23) dX5_row_18 rfl (fun c18 => ?_) (fun c18 => ?_)
      · skip
        refine Ev.iload_n dX5_row_23 rfl ?_
        refine Ev.aload_n dX5_row_24 rfl ?_
        refine Ev.iload_n dX5_row_25 rfl ?_
        refine Ev.bipush dX5_row_26 ⟨by decide, by decide⟩ (by decide) ?_
        refine Ev.iload_n dX5_row_28 rfl ?_
        refine Ev.iadd dX5_row_29 (by unfold ev_in; omega) ?_
        refine Ev.Vi2 (I' := jX5_of) ml_X5_100 dX5_row_30 cyX5_of lm_0 rfl (by decide) ⟨by decide, by decide⟩ (by simp) rfl rfl (s_X5_of (by omega) (by omega) (by omega) (by omega)) (fun r σ' hr30 hq => ?_)
        obtain ⟨rfl, hq⟩ := hq
        replace hq := hq.symm
        subst hq
        have a15 : 0 ≤ σ (300 + (18 * d + (15 + a))) ∧ σ (300 + (18 * d + (15 + a))) ≤ 12 := by
          rcases (show a = 0 ∨ a = 1 by omega) with rfl | rfl
          · exact hM.h15 (by omega) (by omega)
          · exact hM.h16 (by omega) (by omega)
        refine Ev.icmp_ge (tgt := 55) dX5_row_33 rfl (fun c33 => ?_) (fun c33 => ?_)
        · skip
          refine Ev.bipush dX5_row_55 ⟨by decide, by decide⟩ (by decide) ?_
          refine Ev.int rfl dX5_row_57 ?_
          unfold p_row
          repeat (first | rw [if_pos (by omega)] | rw [if_neg (by omega)])
          all_goals rfl
        · skip
          refine Ev.aload_n dX5_row_36 rfl ?_
          refine Ev.getr (420) dX5_row_37 fl_X5_16 lm_0 (by decide) rfl rfl ?_
          refine Ev.bipush dX5_row_40 ⟨by decide, by decide⟩ (by decide) ?_
          refine Ev.iload_n dX5_row_42 rfl ?_
          refine Ev.imul dX5_row_43 (by unfold ev_in; omega) ?_
          refine Ev.bipush dX5_row_44 ⟨by decide, by decide⟩ (by decide) ?_
          refine Ev.iload_n dX5_row_46 rfl ?_
          refine Ev.imul dX5_row_47 (by unfold ev_in; omega) ?_
          refine Ev.iadd dX5_row_48 (by unfold ev_in; omega) ?_
          refine Ev.iload_n dX5_row_49 rfl ?_
          refine Ev.iadd dX5_row_50 (by unfold ev_in; omega) ?_
          refine Ev.iald dX5_row_51 lm_420 (Or.inl rfl) (by omega) (by omega) ?_
          refine Ev.goto (tgt := 57) dX5_row_52 rfl ?_
          refine Ev.int rfl dX5_row_57 ?_
          unfold p_row
          repeat (first | rw [if_pos (by omega)] | rw [if_neg (by omega)])
          all_goals rfl
      · skip
        refine Ev.iconst dX5_row_21 ⟨by decide, by decide⟩ ?_
        refine Ev.int rfl dX5_row_22 ?_
        unfold p_row
        repeat (first | rw [if_pos (by omega)] | rw [if_neg (by omega)])
        all_goals rfl
theorem s_X5_sum {b a : Int} {σ : ev_M} (hM : MI b σ) (hb : b ≤ 1000000000) : Ev jX5_sum layM 0 [some (rv 0), some (iv a)] [] σ (fun r σ' => (r, σ') = p_sum a σ) := by
  have h2 := hM.s2
  refine Ev.iload_n dX5_sum_0 rfl ?_
  refine Ev.iconst dX5_sum_1 ⟨by decide, by decide⟩ ?_
  refine Ev.bipush dX5_sum_2 ⟨by decide, by decide⟩ (by decide) ?_
  refine Ev.Si3 (I' := jX5_isIn) ml_X5_82 dX5_sum_4 cyX5_isIn (by decide) ⟨by decide, by decide⟩ (by simp) rfl rfl (s_X5_isIn') (fun r σ' hr4 hq => ?_)
  obtain ⟨hq1, hq⟩ := hq
  replace hq := hq.symm
  subst hq
  refine Ev.if_eq (tgt := 19) dX5_sum_7 rfl (fun c7 => ?_) (fun c7 => ?_)
  · skip
    refine Ev.iconst dX5_sum_19 ⟨by decide, by decide⟩ ?_
    refine Ev.int rfl dX5_sum_20 ?_
    unfold p_sum
    repeat (first | rw [if_pos (by omega)] | rw [if_neg (by omega)])
    all_goals rfl
  · skip
    refine Ev.aload_n dX5_sum_10 rfl ?_
    refine Ev.getr (570) dX5_sum_11 fl_X5_19 lm_0 (by decide) rfl rfl ?_
    refine Ev.iload_n dX5_sum_14 rfl ?_
    refine Ev.iald dX5_sum_15 lm_570 (Or.inl rfl) (by omega) (by omega) ?_
    refine Ev.goto (tgt := 20) dX5_sum_16 rfl ?_
    refine Ev.int rfl dX5_sum_20 ?_
    unfold p_sum
    repeat (first | rw [if_pos (by omega)] | rw [if_neg (by omega)])
    all_goals rfl
theorem s_X5_log {b i a : Int} {σ : ev_M} (hM : MI b σ) (hb : b ≤ 1000000000) : Ev jX5_log layM 0 [some (rv 0), some (iv i), some (iv a)] [] σ (fun r σ' => (r, σ') = p_log i a σ) := by
  have h2 := hM.s2
  have h11 := hM.s11
  refine Ev.iload_n dX5_log_0 rfl ?_
  refine Ev.iconst dX5_log_1 ⟨by decide, by decide⟩ ?_
  refine Ev.icmp_lt (tgt := 14) dX5_log_2 rfl (fun c2 => ?_) (fun c2 => ?_)
  · skip
    refine Ev.iconst dX5_log_14 ⟨by decide, by decide⟩ ?_
    refine Ev.int rfl dX5_log_15 ?_
    unfold p_log
    repeat (first | rw [if_pos (by omega)] | rw [if_neg (by omega)])
    all_goals rfl
  · skip
    refine Ev.iload_n dX5_log_5 rfl ?_
    refine Ev.iconst dX5_log_6 ⟨by decide, by decide⟩ ?_
    refine Ev.iconst dX5_log_7 ⟨by decide, by decide⟩ ?_
    refine Ev.Si3 (I' := jX5_isIn) ml_X5_82 dX5_log_8 cyX5_isIn (by decide) ⟨by decide, by decide⟩ (by simp) rfl rfl (s_X5_isIn') (fun r σ' hr8 hq => ?_)
    obtain ⟨hq1, hq⟩ := hq
    replace hq := hq.symm
    subst hq
    refine Ev.if_ne (tgt := 16) dX5_log_11 rfl (fun c11 => ?_) (fun c11 => ?_)
    · skip
      refine Ev.iload_n dX5_log_16 rfl ?_
      refine Ev.if_ge (tgt := 25) dX5_log_17 rfl (fun c17 => ?_) (fun c17 => ?_)
      · skip
        refine Ev.iload_n dX5_log_25 rfl ?_
        refine Ev.aload_n dX5_log_26 rfl ?_
        refine Ev.geti (11) dX5_log_27 fl_X5_66 lm_0 (by decide) rfl rfl ?_
        refine Ev.icmp_lt (tgt := 38) dX5_log_30 rfl (fun c30 => ?_) (fun c30 => ?_)
        · skip
          refine Ev.iload_n dX5_log_38 rfl ?_
          refine Ev.if_ne (tgt := 51) dX5_log_39 rfl (fun c39 => ?_) (fun c39 => ?_)
          · skip
            refine Ev.iload_n dX5_log_51 rfl ?_
            refine Ev.iconst dX5_log_52 ⟨by decide, by decide⟩ ?_
            refine Ev.icmp_ne (tgt := 65) dX5_log_53 rfl (fun c53 => ?_) (fun c53 => ?_)
            · skip
              refine Ev.aload_n dX5_log_65 rfl ?_
              refine Ev.getr (620) dX5_log_66 fl_X5_28 lm_0 (by decide) rfl rfl ?_
              refine Ev.iload_n dX5_log_69 rfl ?_
              refine Ev.iald dX5_log_70 lm_620 (Or.inl rfl) (by omega) (by omega) ?_
              refine Ev.int rfl dX5_log_71 ?_
              unfold p_log
              repeat (first | rw [if_pos (by omega)] | rw [if_neg (by omega)])
              all_goals rfl
            · skip
              refine Ev.aload_n dX5_log_56 rfl ?_
              refine Ev.getr (600) dX5_log_57 fl_X5_25 lm_0 (by decide) rfl rfl ?_
              refine Ev.iload_n dX5_log_60 rfl ?_
              refine Ev.iald dX5_log_61 lm_600 (Or.inl rfl) (by omega) (by omega) ?_
              refine Ev.goto (tgt := 71) dX5_log_62 rfl ?_
              refine Ev.int rfl dX5_log_71 ?_
              unfold p_log
              repeat (first | rw [if_pos (by omega)] | rw [if_neg (by omega)])
              all_goals rfl
          · skip
            refine Ev.aload_n dX5_log_42 rfl ?_
            refine Ev.getr (580) dX5_log_43 fl_X5_22 lm_0 (by decide) rfl rfl ?_
            refine Ev.iload_n dX5_log_46 rfl ?_
            refine Ev.iald dX5_log_47 lm_580 (Or.inl rfl) (by omega) (by omega) ?_
            refine Ev.goto (tgt := 71) dX5_log_48 rfl ?_
            refine Ev.int rfl dX5_log_71 ?_
            unfold p_log
            repeat (first | rw [if_pos (by omega)] | rw [if_neg (by omega)])
            all_goals rfl
        · skip
          refine Ev.bipush dX5_log_33 ⟨by decide, by decide⟩ (by decide) ?_
          refine Ev.goto (tgt := 71) dX5_log_35 rfl ?_
          refine Ev.int rfl dX5_log_71 ?_
          unfold p_log
          repeat (first | rw [if_pos (by omega)] | rw [if_neg (by omega)])
          all_goals rfl
      · skip
        refine Ev.aload_n dX5_log_20 rfl ?_
        refine Ev.geti (11) dX5_log_21 fl_X5_66 lm_0 (by decide) rfl rfl ?_
        refine Ev.int rfl dX5_log_24 ?_
        unfold p_log
        repeat (first | rw [if_pos (by omega)] | rw [if_neg (by omega)])
        all_goals rfl
    · skip
      refine Ev.iconst dX5_log_14 ⟨by decide, by decide⟩ ?_
      refine Ev.int rfl dX5_log_15 ?_
      unfold p_log
      repeat (first | rw [if_pos (by omega)] | rw [if_neg (by omega)])
      all_goals rfl
theorem s_X5_tick {b n : Int} {σ : ev_M} (hM : MI b σ) (hb : b ≤ 900000000) : Ev jX5_tick layM 0 [some (rv 0), some (iv n)] [] σ (fun r σ' => (r, σ') = p_tick n σ) := by
  refine Ev.iload_n dX5_tick_0 rfl ?_
  refine Ev.iconst dX5_tick_1 ⟨by decide, by decide⟩ ?_
  refine Ev.sipush dX5_tick_2 ⟨by decide, by decide⟩ (by decide) ?_
  refine Ev.Si3 (I' := jX5_isIn) ml_X5_82 dX5_tick_5 cyX5_isIn (by decide) ⟨by decide, by decide⟩ (by simp) rfl rfl (s_X5_isIn') (fun r σ' hr5 hq => ?_)
  obtain ⟨hq1, hq⟩ := hq
  replace hq := hq.symm
  subst hq
  refine Ev.if_ne (tgt := 13) dX5_tick_8 rfl (fun c8 => ?_) (fun c8 => ?_)
  · skip
    refine Ev.aload_n dX5_tick_13 rfl ?_
    refine Ev.iload_n dX5_tick_14 rfl ?_
    refine Ev.Vv1 (I' := jX5_ticks) ml_X5_107 dX5_tick_15 cyX5_ticks lm_0 rfl (by decide) ⟨by decide, by decide⟩ (by simp) rfl rfl (s_X5_ticks (by omega) (by omega) hM hb) (fun σ' hq => ?_)
    subst hq
    refine Ev.aload_n dX5_tick_18 rfl ?_
    refine Ev.geti (7) dX5_tick_19 fl_X5_57 lm_0 (by decide) rfl rfl ?_
    refine Ev.int rfl dX5_tick_22 ?_
    unfold p_tick
    first | rw [if_pos (by omega)] | rw [if_neg (by omega)]
  · skip
    refine Ev.iconst dX5_tick_11 ⟨by decide, by decide⟩ ?_
    refine Ev.int rfl dX5_tick_12 ?_
    unfold p_tick
    first | rw [if_pos (by omega)] | rw [if_neg (by omega)]
theorem s_X5_command {b c : Int} {σ : ev_M} (hM : MI b σ) (hb : b ≤ 800000000) : Ev jX5_command layM 0 [some (rv 0), some (iv c)] [] σ (fun r σ' => (r, σ') = p_command c σ) := by
  refine Ev.iload_n dX5_command_0 rfl ?_
  refine Ev.iconst dX5_command_1 ⟨by decide, by decide⟩ ?_
  refine Ev.bipush dX5_command_2 ⟨by decide, by decide⟩ (by decide) ?_
  refine Ev.Si3 (I' := jX5_isIn) ml_X5_82 dX5_command_4 cyX5_isIn (by decide) ⟨by decide, by decide⟩ (by simp) rfl rfl (s_X5_isIn') (fun r σ' hr4 hq => ?_)
  obtain ⟨hq1, hq⟩ := hq
  replace hq := hq.symm
  subst hq
  refine Ev.if_ne (tgt := 12) dX5_command_7 rfl (fun c7 => ?_) (fun c7 => ?_)
  · skip
    refine Ev.aload_n dX5_command_12 rfl ?_
    refine Ev.iload_n dX5_command_13 rfl ?_
    refine Ev.Vv1 (I' := jX5_sends) ml_X5_154 dX5_command_14 cyX5_sends lm_0 rfl (by decide) ⟨by decide, by decide⟩ (by simp) rfl rfl (s_X5_sends hM hb (by omega) (by omega)) (fun σ' hq => ?_)
    subst hq
    refine Ev.aload_n dX5_command_17 rfl ?_
    refine Ev.geti (7) dX5_command_18 fl_X5_57 lm_0 (by decide) rfl rfl ?_
    refine Ev.int rfl dX5_command_21 ?_
    unfold p_command
    first | rw [if_pos (by omega)] | rw [if_neg (by omega)]
  · skip
    refine Ev.iconst dX5_command_10 ⟨by decide, by decide⟩ ?_
    refine Ev.int rfl dX5_command_11 ?_
    unfold p_command
    first | rw [if_pos (by omega)] | rw [if_neg (by omega)]
theorem s_X5_takeBack {b : Int} {σ : ev_M} (hM : MI b σ) : Ev jX5_takeBack layM 0 [some (rv 0), none] [] σ (fun r σ' => (r, σ') = p_takeBack σ) := by
  have h2 := hM.s2
  refine Ev.aload_n dX5_takeBack_0 rfl ?_
  refine Ev.geti (5) dX5_takeBack_1 fl_X5_51 lm_0 (by decide) rfl rfl ?_
  refine Ev.istore1 rfl dX5_takeBack_4 ?_
  refine Ev.aload_n dX5_takeBack_5 rfl ?_
  refine Ev.iconst dX5_takeBack_6 ⟨by decide, by decide⟩ ?_
  refine Ev.iconst dX5_takeBack_7 ⟨by decide, by decide⟩ ?_
  refine Ev.Vv2 (I' := jX5_all) ml_X5_142 dX5_takeBack_8 cyX5_all lm_0 rfl (by decide) ⟨by decide, by decide⟩ (by simp) rfl rfl (s_X5_all (by decide) (by decide) (by first | omega | (simp (disch := omega) only [it_all_o]; omega)) (by first | omega | (simp (disch := omega) only [it_all_o]; omega))) (fun σ' hq => ?_)
  subst hq
  try simp (disch := omega) only [it_all_o]
  refine Ev.aload_n dX5_takeBack_11 rfl ?_
  refine Ev.bipush dX5_takeBack_12 ⟨by decide, by decide⟩ (by decide) ?_
  refine Ev.iconst dX5_takeBack_14 ⟨by decide, by decide⟩ ?_
  refine Ev.Vv2 (I' := jX5_all) ml_X5_142 dX5_takeBack_15 cyX5_all lm_0 rfl (by decide) ⟨by decide, by decide⟩ (by simp) rfl rfl (s_X5_all (by decide) (by decide) (by first | omega | (simp (disch := omega) only [it_all_o]; omega)) (by first | omega | (simp (disch := omega) only [it_all_o]; omega))) (fun σ' hq => ?_)
  subst hq
  try simp (disch := omega) only [it_all_o]
  refine Ev.aload_n dX5_takeBack_18 rfl ?_
  refine Ev.bipush dX5_takeBack_19 ⟨by decide, by decide⟩ (by decide) ?_
  refine Ev.iconst dX5_takeBack_21 ⟨by decide, by decide⟩ ?_
  refine Ev.Vv2 (I' := jX5_all) ml_X5_142 dX5_takeBack_22 cyX5_all lm_0 rfl (by decide) ⟨by decide, by decide⟩ (by simp) rfl rfl (s_X5_all (by decide) (by decide) (by first | omega | (simp (disch := omega) only [it_all_o]; omega)) (by first | omega | (simp (disch := omega) only [it_all_o]; omega))) (fun σ' hq => ?_)
  subst hq
  try simp (disch := omega) only [it_all_o]
  refine Ev.aload_n dX5_takeBack_25 rfl ?_
  refine Ev.iconst dX5_takeBack_26 ⟨by decide, by decide⟩ ?_
  refine Ev.puti (9) dX5_takeBack_27 fl_X5_63 ft_5_9 lm_0 (by decide) rfl rfl ?_
  refine Ev.aload_n dX5_takeBack_30 rfl ?_
  refine Ev.iconst dX5_takeBack_31 ⟨by decide, by decide⟩ ?_
  refine Ev.puti (6) dX5_takeBack_32 fl_X5_54 ft_5_6 lm_0 (by decide) rfl rfl ?_
  refine Ev.aload_n dX5_takeBack_35 rfl ?_
  refine Ev.iconst dX5_takeBack_36 ⟨by decide, by decide⟩ ?_
  refine Ev.puti (5) dX5_takeBack_37 fl_X5_51 ft_5_5 lm_0 (by decide) rfl rfl ?_
  refine Ev.iload_n dX5_takeBack_40 rfl ?_
  refine Ev.int rfl dX5_takeBack_41 ?_
  rfl
def aar (τ : ev_M) : Nat → Int
  | 0 => 0
  | k + 1 => ev_or (aar τ k) (τ (300 + (18 * (k : Int) + 10)))
def m_any (τ : ev_M) : Int := aar τ (τ 2).toNat
theorem s_X5_anyAsks {σ : ev_M} (h2 : 0 ≤ σ 2) (h2' : σ 2 ≤ 6) : Ev jX5_anyAsks layM 0 [some (rv 0), none, none] [] σ (fun r σ' => r = m_any σ ∧ σ' = σ) := by
  have loop : ∀ (j k : Nat), (k : Int) + j = σ 2 → Ev jX5_anyAsks layM 4 [some (rv 0), some (iv (aar σ k)), some (iv (k : Int))] [] σ (fun r σ' => r = m_any σ ∧ σ' = σ) := by
    intro j
    induction j with
    | zero =>
      intro k hk
      refine Ev.iload_n dX5_anyAsks_4 rfl ?_
      refine Ev.aload_n dX5_anyAsks_5 rfl ?_
      refine Ev.geti (2) dX5_anyAsks_6 fl_X5_44 lm_0 (by decide) rfl rfl ?_
      refine Ev.icmp_ge (tgt := 28) dX5_anyAsks_9 rfl (fun c9 => ?_) (fun c9 => ?_)
      · skip
        refine Ev.iload_n dX5_anyAsks_28 rfl ?_
        refine Ev.int rfl dX5_anyAsks_29 ?_
        refine ⟨?_, rfl⟩
        unfold m_any
        rw [show (σ 2).toNat = k by omega]
      · skip
        exact absurd c9 (by omega)
    | succ j ih =>
      intro k hk
      refine Ev.iload_n dX5_anyAsks_4 rfl ?_
      refine Ev.aload_n dX5_anyAsks_5 rfl ?_
      refine Ev.geti (2) dX5_anyAsks_6 fl_X5_44 lm_0 (by decide) rfl rfl ?_
      refine Ev.icmp_ge (tgt := 28) dX5_anyAsks_9 rfl (fun c9 => ?_) (fun c9 => ?_)
      · skip
        exact absurd c9 (by omega)
      · skip
        refine Ev.iload_n dX5_anyAsks_12 rfl ?_
        refine Ev.aload_n dX5_anyAsks_13 rfl ?_
        refine Ev.iload_n dX5_anyAsks_14 rfl ?_
        refine Ev.bipush dX5_anyAsks_15 ⟨by decide, by decide⟩ (by decide) ?_
        refine Ev.Vi2 (I' := jX5_of) ml_X5_100 dX5_anyAsks_17 cyX5_of lm_0 rfl (by decide) ⟨by decide, by decide⟩ (by simp) rfl rfl (s_X5_of (by omega) (by omega) (by decide) (by decide)) (fun r σ' hr17 hq => ?_)
        obtain ⟨rfl, hq⟩ := hq
        replace hq := hq.symm
        subst hq
        refine Ev.ior dX5_anyAsks_20 ?_
        refine Ev.istore1 rfl dX5_anyAsks_21 ?_
        refine Ev.iinc2 dX5_anyAsks_22 (by unfold ev_in; omega) ?_
        refine Ev.goto (tgt := 4) dX5_anyAsks_25 rfl ?_
        exact ih (k + 1) (by omega)
  refine Ev.iconst dX5_anyAsks_0 ⟨by decide, by decide⟩ ?_
  refine Ev.istore1 rfl dX5_anyAsks_1 ?_
  refine Ev.iconst dX5_anyAsks_2 ⟨by decide, by decide⟩ ?_
  refine Ev.istore2 rfl dX5_anyAsks_3 ?_
  exact loop (σ 2).toNat 0 (by omega)
def par (τ : ev_M) : Nat → Int
  | 0 => 0
  | k + 1 => ev_or (par τ k) (if 0 ≤ τ (300 + (18 * (k : Int) + 11)) ∧ τ (300 + (18 * (k : Int) + 10)) = τ (300 + (18 * (k : Int) + 12)) then ev_shl 1 (τ (300 + (18 * (k : Int) + 11))) else 0)
def p_parallel (τ : ev_M) : Int × ev_M := (par (m_ticks τ 1) (τ 2).toNat, m_ticks τ 1)
theorem s_X5_parallel {b : Int} {σ : ev_M} (hM : MI b σ) (hb : b ≤ 900000000) : Ev jX5_parallel layM 0 [some (rv 0), none, none] [] σ (fun r σ' => (r, σ') = p_parallel σ) := by
  have h2 := hM.s2
  have e2 : m_ticks σ 1 2 = σ 2 := m_ticks_o hM (by decide) (by decide) 1
  have loop : ∀ (j k : Nat), (k : Int) + j = σ 2 → Ev jX5_parallel layM 9 [some (rv 0), some (iv (par (m_ticks σ 1) k)), some (iv (k : Int))] [] (m_ticks σ 1) (fun r σ' => (r, σ') = p_parallel σ) := by
    intro j
    induction j with
    | zero =>
      intro k hk
      refine Ev.iload_n dX5_parallel_9 rfl ?_
      refine Ev.aload_n dX5_parallel_10 rfl ?_
      refine Ev.geti (2) dX5_parallel_11 fl_X5_44 lm_0 (by decide) rfl rfl ?_
      refine Ev.icmp_ge (tgt := 66) dX5_parallel_14 rfl (fun c14 => ?_) (fun c14 => ?_)
      · skip
        refine Ev.iload_n dX5_parallel_66 rfl ?_
        refine Ev.int rfl dX5_parallel_67 ?_
        unfold p_parallel
        rw [show (σ 2).toNat = k by omega]
      · skip
        exact absurd c14 (by omega)
    | succ j ih =>
      intro k hk
      refine Ev.iload_n dX5_parallel_9 rfl ?_
      refine Ev.aload_n dX5_parallel_10 rfl ?_
      refine Ev.geti (2) dX5_parallel_11 fl_X5_44 lm_0 (by decide) rfl rfl ?_
      refine Ev.icmp_ge (tgt := 66) dX5_parallel_14 rfl (fun c14 => ?_) (fun c14 => ?_)
      · skip
        exact absurd c14 (by omega)
      · skip
        refine Ev.iload_n dX5_parallel_17 rfl ?_
        refine Ev.aload_n dX5_parallel_18 rfl ?_
        refine Ev.iload_n dX5_parallel_19 rfl ?_
        refine Ev.bipush dX5_parallel_20 ⟨by decide, by decide⟩ (by decide) ?_
        refine Ev.Vi2 (I' := jX5_of) ml_X5_100 dX5_parallel_22 cyX5_of lm_0 rfl (by decide) ⟨by decide, by decide⟩ (by simp) rfl rfl (s_X5_of (by omega) (by omega) (by decide) (by decide)) (fun r σ' hr22 hq => ?_)
        obtain ⟨rfl, hq⟩ := hq
        replace hq := hq.symm
        subst hq
        refine Ev.if_lt (tgt := 57) dX5_parallel_25 rfl (fun c25 => ?_) (fun c25 => ?_)
        · skip
          refine Ev.iconst dX5_parallel_57 ⟨by decide, by decide⟩ ?_
          refine Ev.ior dX5_parallel_58 ?_
          refine Ev.istore1 rfl dX5_parallel_59 ?_
          refine Ev.iinc2 dX5_parallel_60 (by unfold ev_in; omega) ?_
          refine Ev.goto (tgt := 9) dX5_parallel_63 rfl ?_
          have := ih (k + 1) (by omega)
          rw [show par (m_ticks σ 1) (k + 1) = ev_or (par (m_ticks σ 1) k) (if 0 ≤ m_ticks σ 1 (300 + (18 * (k : Int) + 11)) ∧ m_ticks σ 1 (300 + (18 * (k : Int) + 10)) = m_ticks σ 1 (300 + (18 * (k : Int) + 12)) then ev_shl 1 (m_ticks σ 1 (300 + (18 * (k : Int) + 11))) else 0) from rfl] at this
          first | rw [if_pos (by omega)] at this | rw [if_neg (by omega)] at this
          exact this
        · skip
          refine Ev.aload_n dX5_parallel_28 rfl ?_
          refine Ev.iload_n dX5_parallel_29 rfl ?_
          refine Ev.bipush dX5_parallel_30 ⟨by decide, by decide⟩ (by decide) ?_
          refine Ev.Vi2 (I' := jX5_of) ml_X5_100 dX5_parallel_32 cyX5_of lm_0 rfl (by decide) ⟨by decide, by decide⟩ (by simp) rfl rfl (s_X5_of (by omega) (by omega) (by decide) (by decide)) (fun r σ' hr32 hq => ?_)
          obtain ⟨rfl, hq⟩ := hq
          replace hq := hq.symm
          subst hq
          refine Ev.aload_n dX5_parallel_35 rfl ?_
          refine Ev.iload_n dX5_parallel_36 rfl ?_
          refine Ev.bipush dX5_parallel_37 ⟨by decide, by decide⟩ (by decide) ?_
          refine Ev.Vi2 (I' := jX5_of) ml_X5_100 dX5_parallel_39 cyX5_of lm_0 rfl (by decide) ⟨by decide, by decide⟩ (by simp) rfl rfl (s_X5_of (by omega) (by omega) (by decide) (by decide)) (fun r σ' hr39 hq => ?_)
          obtain ⟨rfl, hq⟩ := hq
          replace hq := hq.symm
          subst hq
          refine Ev.icmp_ne (tgt := 57) dX5_parallel_42 rfl (fun c42 => ?_) (fun c42 => ?_)
          · skip
            refine Ev.iconst dX5_parallel_57 ⟨by decide, by decide⟩ ?_
            refine Ev.ior dX5_parallel_58 ?_
            refine Ev.istore1 rfl dX5_parallel_59 ?_
            refine Ev.iinc2 dX5_parallel_60 (by unfold ev_in; omega) ?_
            refine Ev.goto (tgt := 9) dX5_parallel_63 rfl ?_
            have := ih (k + 1) (by omega)
            rw [show par (m_ticks σ 1) (k + 1) = ev_or (par (m_ticks σ 1) k) (if 0 ≤ m_ticks σ 1 (300 + (18 * (k : Int) + 11)) ∧ m_ticks σ 1 (300 + (18 * (k : Int) + 10)) = m_ticks σ 1 (300 + (18 * (k : Int) + 12)) then ev_shl 1 (m_ticks σ 1 (300 + (18 * (k : Int) + 11))) else 0) from rfl] at this
            first | rw [if_pos (by omega)] at this | rw [if_neg (by omega)] at this
            exact this
          · skip
            refine Ev.iconst dX5_parallel_45 ⟨by decide, by decide⟩ ?_
            refine Ev.aload_n dX5_parallel_46 rfl ?_
            refine Ev.iload_n dX5_parallel_47 rfl ?_
            refine Ev.bipush dX5_parallel_48 ⟨by decide, by decide⟩ (by decide) ?_
            refine Ev.Vi2 (I' := jX5_of) ml_X5_100 dX5_parallel_50 cyX5_of lm_0 rfl (by decide) ⟨by decide, by decide⟩ (by simp) rfl rfl (s_X5_of (by omega) (by omega) (by decide) (by decide)) (fun r σ' hr50 hq => ?_)
            obtain ⟨rfl, hq⟩ := hq
            replace hq := hq.symm
            subst hq
            refine Ev.ishl dX5_parallel_53 ?_
            refine Ev.goto (tgt := 58) dX5_parallel_54 rfl ?_
            refine Ev.ior dX5_parallel_58 ?_
            refine Ev.istore1 rfl dX5_parallel_59 ?_
            refine Ev.iinc2 dX5_parallel_60 (by unfold ev_in; omega) ?_
            refine Ev.goto (tgt := 9) dX5_parallel_63 rfl ?_
            have := ih (k + 1) (by omega)
            rw [show par (m_ticks σ 1) (k + 1) = ev_or (par (m_ticks σ 1) k) (if 0 ≤ m_ticks σ 1 (300 + (18 * (k : Int) + 11)) ∧ m_ticks σ 1 (300 + (18 * (k : Int) + 10)) = m_ticks σ 1 (300 + (18 * (k : Int) + 12)) then ev_shl 1 (m_ticks σ 1 (300 + (18 * (k : Int) + 11))) else 0) from rfl] at this
            first | rw [if_pos (by omega)] at this | rw [if_neg (by omega)] at this
            exact this
  refine Ev.aload_n dX5_parallel_0 rfl ?_
  refine Ev.iconst dX5_parallel_1 ⟨by decide, by decide⟩ ?_
  refine Ev.Vv1 (I' := jX5_ticks) ml_X5_107 dX5_parallel_2 cyX5_ticks lm_0 rfl (by decide) ⟨by decide, by decide⟩ (by simp) rfl rfl (s_X5_ticks (by decide) (by decide) hM hb) (fun σ' hq => ?_)
  subst hq
  refine Ev.iconst dX5_parallel_5 ⟨by decide, by decide⟩ ?_
  refine Ev.istore1 rfl dX5_parallel_6 ?_
  refine Ev.iconst dX5_parallel_7 ⟨by decide, by decide⟩ ?_
  refine Ev.istore2 rfl dX5_parallel_8 ?_
  exact loop (σ 2).toNat 0 (by omega)
def m_tkset (τ : ev_M) : Int := if m_talk τ < 0 then 0 else ev_and (m_lis τ) (ev_xor (ev_shl 1 (m_talk τ)) (-1))
def flr (set : Int) (τ : ev_M) : Nat → Int
  | 0 => 0
  | k + 1 => if flr set τ k = 1 then 1 else if ev_and (ev_shr set (k : Int)) 1 = 1 ∧ τ (300 + (18 * (k : Int) + 16)) = 12 then 1 else 0
theorem flr_stay {set : Int} {τ : ev_M} {k : Nat} (h : flr set τ k = 1) : ∀ j : Nat, flr set τ (k + j) = 1
  | 0 => h
  | j + 1 => by
    show (if flr set τ (k + j) = 1 then 1 else _) = 1
    rw [if_pos (flr_stay h j)]
theorem flr_no {set : Int} {τ : ev_M} : ∀ {k : Nat}, flr set τ k ≠ 1 → ∀ i : Nat, i < k → ev_and (ev_shr set (i : Int)) 1 = 1 → τ (300 + (18 * (i : Int) + 16)) ≠ 12
  | 0, _, i, hi, _ => absurd hi (by omega)
  | k + 1, h, i, hi, hs => by
    have h' : ¬ (if flr set τ k = 1 then (1 : Int) else if ev_and (ev_shr set (k : Int)) 1 = 1 ∧ τ (300 + (18 * (k : Int) + 16)) = 12 then 1 else 0) = 1 := h
    by_cases h1 : flr set τ k = 1
    · rw [if_pos h1] at h'; exact absurd rfl h'
    · rw [if_neg h1] at h'
      by_cases hik : i = k
      · subst hik
        intro z
        rw [if_pos ⟨hs, z⟩] at h'
        exact h' rfl
      · exact flr_no h1 i (by omega) hs
def m_takers (τ : ev_M) : Int := if m_tkset τ = 0 ∨ (τ 6 = 0 ∧ τ (300 + (18 * m_talk τ + 15)) = 0) then 0 else if flr (m_tkset τ) τ (τ 2).toNat = 1 then 0 else m_tkset τ
theorem s_X5_takers {b : Int} {σ : ev_M} (hM : MI b σ) : Ev jX5_takers layM 0 [some (rv 0), none, none, none] [] σ (fun r σ' => r = m_takers σ ∧ σ' = σ) := by
  have h2 := hM.s2
  have ht := m_talk_rng h2.1
  have loop : ¬ (m_tkset σ = 0 ∨ (σ 6 = 0 ∧ σ (300 + (18 * m_talk σ + 15)) = 0)) → ∀ (j k : Nat) (v1 : Option ev_V), (k : Int) + j = σ 2 → flr (m_tkset σ) σ k ≠ 1 → Ev jX5_takers layM 49 [some (rv 0), v1, some (iv (m_tkset σ)), some (iv (k : Int))] [] σ (fun r σ' => r = m_takers σ ∧ σ' = σ) := by
    intro hc j
    induction j with
    | zero =>
      intro k v1 hk hf
      refine Ev.iload_n dX5_takers_49 rfl ?_
      refine Ev.aload_n dX5_takers_50 rfl ?_
      refine Ev.geti (2) dX5_takers_51 fl_X5_44 lm_0 (by decide) rfl rfl ?_
      refine Ev.icmp_ge (tgt := 86) dX5_takers_54 rfl (fun c54 => ?_) (fun c54 => ?_)
      · skip
        refine Ev.iload_n dX5_takers_86 rfl ?_
        refine Ev.int rfl dX5_takers_87 ?_
        refine ⟨?_, rfl⟩
        unfold m_takers
        rw [if_neg hc, show (σ 2).toNat = k by omega, if_neg hf]
      · skip
        exact absurd c54 (by omega)
    | succ j ih =>
      intro k v1 hk hf
      refine Ev.iload_n dX5_takers_49 rfl ?_
      refine Ev.aload_n dX5_takers_50 rfl ?_
      refine Ev.geti (2) dX5_takers_51 fl_X5_44 lm_0 (by decide) rfl rfl ?_
      refine Ev.icmp_ge (tgt := 86) dX5_takers_54 rfl (fun c54 => ?_) (fun c54 => ?_)
      · skip
        exact absurd c54 (by omega)
      · skip
        refine Ev.iload_n dX5_takers_57 rfl ?_
        refine Ev.iload_n dX5_takers_58 rfl ?_
        refine Ev.ishr dX5_takers_59 ?_
        refine Ev.iconst dX5_takers_60 ⟨by decide, by decide⟩ ?_
        refine Ev.iand dX5_takers_61 ?_
        refine Ev.iconst dX5_takers_62 ⟨by decide, by decide⟩ ?_
        refine Ev.icmp_ne (tgt := 80) dX5_takers_63 rfl (fun c63 => ?_) (fun c63 => ?_)
        · skip
          refine Ev.iinc3 dX5_takers_80 (by unfold ev_in; omega) ?_
          refine Ev.goto (tgt := 49) dX5_takers_83 rfl ?_
          refine ih (k + 1) _ (by omega) ?_
          show ¬ (if flr (m_tkset σ) σ k = 1 then (1 : Int) else if ev_and (ev_shr (m_tkset σ) (k : Int)) 1 = 1 ∧ σ (300 + (18 * (k : Int) + 16)) = 12 then 1 else 0) = 1
          rw [if_neg hf, if_neg (by omega)]
          decide
        · skip
          refine Ev.aload_n dX5_takers_66 rfl ?_
          refine Ev.iload_n dX5_takers_67 rfl ?_
          refine Ev.bipush dX5_takers_68 ⟨by decide, by decide⟩ (by decide) ?_
          refine Ev.Vi2 (I' := jX5_of) ml_X5_100 dX5_takers_70 cyX5_of lm_0 rfl (by decide) ⟨by decide, by decide⟩ (by simp) rfl rfl (s_X5_of (by omega) (by omega) (by decide) (by decide)) (fun r σ' hr70 hq => ?_)
          obtain ⟨rfl, hq⟩ := hq
          replace hq := hq.symm
          subst hq
          refine Ev.bipush dX5_takers_73 ⟨by decide, by decide⟩ (by decide) ?_
          refine Ev.icmp_ne (tgt := 80) dX5_takers_75 rfl (fun c75 => ?_) (fun c75 => ?_)
          · skip
            refine Ev.iinc3 dX5_takers_80 (by unfold ev_in; omega) ?_
            refine Ev.goto (tgt := 49) dX5_takers_83 rfl ?_
            refine ih (k + 1) _ (by omega) ?_
            show ¬ (if flr (m_tkset σ) σ k = 1 then (1 : Int) else if ev_and (ev_shr (m_tkset σ) (k : Int)) 1 = 1 ∧ σ (300 + (18 * (k : Int) + 16)) = 12 then 1 else 0) = 1
            rw [if_neg hf, if_neg (by omega)]
            decide
          · skip
            refine Ev.iconst dX5_takers_78 ⟨by decide, by decide⟩ ?_
            refine Ev.int rfl dX5_takers_79 ?_
            refine ⟨?_, rfl⟩
            have e1 : flr (m_tkset σ) σ (k + 1) = 1 := by
              show (if flr (m_tkset σ) σ k = 1 then (1 : Int) else if ev_and (ev_shr (m_tkset σ) (k : Int)) 1 = 1 ∧ σ (300 + (18 * (k : Int) + 16)) = 12 then 1 else 0) = 1
              rw [if_neg hf, if_pos (by omega)]
            unfold m_takers
            rw [if_neg hc, show (σ 2).toNat = (k + 1) + j by omega, if_pos (flr_stay e1 j)]
  refine Ev.aload_n dX5_takers_0 rfl ?_
  refine Ev.Vi0 (I' := jX5_talker) ml_X5_117 dX5_takers_1 cyX5_talker lm_0 rfl (by decide) ⟨by decide, by decide⟩ (by simp) rfl rfl (s_X5_talker (by omega) (by omega)) (fun r σ' hr1 hq => ?_)
  obtain ⟨rfl, hq⟩ := hq
  replace hq := hq.symm
  subst hq
  refine Ev.istore1 rfl dX5_takers_4 ?_
  refine Ev.iload_n dX5_takers_5 rfl ?_
  refine Ev.if_ge (tgt := 13) dX5_takers_6 rfl (fun c6 => ?_) (fun c6 => ?_)
  · skip
    refine Ev.aload_n dX5_takers_13 rfl ?_
    refine Ev.Vi0 (I' := jX5_listeners) ml_X5_132 dX5_takers_14 cyX5_listeners lm_0 rfl (by decide) ⟨by decide, by decide⟩ (by simp) rfl rfl (s_X5_listeners (by omega) (by omega)) (fun r σ' hr14 hq => ?_)
    obtain ⟨rfl, hq⟩ := hq
    replace hq := hq.symm
    subst hq
    refine Ev.iconst dX5_takers_17 ⟨by decide, by decide⟩ ?_
    refine Ev.iload_n dX5_takers_18 rfl ?_
    refine Ev.ishl dX5_takers_19 ?_
    refine Ev.iconst dX5_takers_20 ⟨by decide, by decide⟩ ?_
    refine Ev.ixor dX5_takers_21 ?_
    refine Ev.iand dX5_takers_22 ?_
    rw [show ev_and (m_lis σ) (ev_xor (ev_shl 1 (m_talk σ)) (-1)) = m_tkset σ by unfold m_tkset; rw [if_neg (by omega)]]
    refine Ev.istore2 rfl dX5_takers_23 ?_
    refine Ev.iload_n dX5_takers_24 rfl ?_
    refine Ev.if_eq (tgt := 45) dX5_takers_25 rfl (fun c25 => ?_) (fun c25 => ?_)
    · skip
      refine Ev.iconst dX5_takers_45 ⟨by decide, by decide⟩ ?_
      refine Ev.int rfl dX5_takers_46 ?_
      refine ⟨?_, rfl⟩
      unfold m_takers
      rw [if_pos (by omega)]
    · skip
      refine Ev.aload_n dX5_takers_28 rfl ?_
      refine Ev.geti (6) dX5_takers_29 fl_X5_54 lm_0 (by decide) rfl rfl ?_
      refine Ev.if_ne (tgt := 47) dX5_takers_32 rfl (fun c32 => ?_) (fun c32 => ?_)
      · skip
        refine Ev.iconst dX5_takers_47 ⟨by decide, by decide⟩ ?_
        refine Ev.istore3 rfl dX5_takers_48 ?_
        exact loop (by omega) (σ 2).toNat 0 _ (by omega) (by show (0 : Int) ≠ 1; decide)
      · skip
        refine Ev.aload_n dX5_takers_35 rfl ?_
        refine Ev.iload_n dX5_takers_36 rfl ?_
        refine Ev.bipush dX5_takers_37 ⟨by decide, by decide⟩ (by decide) ?_
        refine Ev.Vi2 (I' := jX5_of) ml_X5_100 dX5_takers_39 cyX5_of lm_0 rfl (by decide) ⟨by decide, by decide⟩ (by simp) rfl rfl (s_X5_of (by omega) (by omega) (by omega) (by omega)) (fun r σ' hr39 hq => ?_)
        obtain ⟨rfl, hq⟩ := hq
        replace hq := hq.symm
        subst hq
        refine Ev.if_ne (tgt := 47) dX5_takers_42 rfl (fun c42 => ?_) (fun c42 => ?_)
        · skip
          refine Ev.iconst dX5_takers_47 ⟨by decide, by decide⟩ ?_
          refine Ev.istore3 rfl dX5_takers_48 ?_
          exact loop (by omega) (σ 2).toNat 0 _ (by omega) (by show (0 : Int) ≠ 1; decide)
        · skip
          refine Ev.iconst dX5_takers_45 ⟨by decide, by decide⟩ ?_
          refine Ev.int rfl dX5_takers_46 ?_
          refine ⟨?_, rfl⟩
          unfold m_takers
          rw [if_pos (by omega)]
  · skip
    refine Ev.iconst dX5_takers_9 ⟨by decide, by decide⟩ ?_
    refine Ev.goto (tgt := 23) dX5_takers_10 rfl ?_
    refine Ev.istore2 rfl dX5_takers_23 ?_
    refine Ev.iload_n dX5_takers_24 rfl ?_
    refine Ev.if_eq (tgt := 45) dX5_takers_25 rfl (fun _ => ?_) (fun z => absurd rfl z)
    refine Ev.iconst dX5_takers_45 ⟨by decide, by decide⟩ ?_
    refine Ev.int rfl dX5_takers_46 ?_
    refine ⟨?_, rfl⟩
    unfold m_takers m_tkset
    rw [if_pos (Or.inl (if_pos (by omega)))]
def p_bus (a : Int) (τ : ev_M) : Int × ev_M := (if a = 0 then m_talk τ else if a = 1 then m_lis τ else if a = 2 then τ 5 else if a = 3 then τ 6 else if a = 4 then τ 7 else if a = 5 then m_any τ else if a = 6 then (if m_takers τ = 0 then -2 else m_slow (m_takers τ) τ + 2) else if a = 7 then τ 2 else if a = 8 then τ 0 else -1, τ)
theorem s_X5_bus {b a : Int} {σ : ev_M} (hM : MI b σ) : Ev jX5_bus layM 0 [some (rv 0), some (iv a)] [] σ (fun r σ' => (r, σ') = p_bus a σ) := by
  have h2 := hM.s2
  refine Ev.iload_n dX5_bus_0 rfl ?_
  by_cases hs : 0 ≤ a ∧ a ≤ 8
  · rcases (show a = 0 ∨ a = 1 ∨ a = 2 ∨ a = 3 ∨ a = 4 ∨ a = 5 ∨ a = 6 ∨ a = 7 ∨ a = 8 by omega) with rfl | rfl | rfl | rfl | rfl | rfl | rfl | rfl | rfl
    · refine Ev.tabIn (tgt := 52) dX5_bus_1 (by decide) (by decide) rfl rfl ?_
      refine Ev.aload_n dX5_bus_52 rfl ?_
      refine Ev.Vi0 (I' := jX5_talker) ml_X5_117 dX5_bus_53 cyX5_talker lm_0 rfl (by decide) ⟨by decide, by decide⟩ (by simp) rfl rfl (s_X5_talker (by omega) (by omega)) (fun r σ' hr53 hq => ?_)
      obtain ⟨rfl, hq⟩ := hq
      replace hq := hq.symm
      subst hq
      refine Ev.int rfl dX5_bus_56 ?_
      unfold p_bus
      first | rfl | (repeat (first | rw [if_pos (by omega)] | rw [if_neg (by omega)]))
    · refine Ev.tabIn (tgt := 57) dX5_bus_1 (by decide) (by decide) rfl rfl ?_
      refine Ev.aload_n dX5_bus_57 rfl ?_
      refine Ev.Vi0 (I' := jX5_listeners) ml_X5_132 dX5_bus_58 cyX5_listeners lm_0 rfl (by decide) ⟨by decide, by decide⟩ (by simp) rfl rfl (s_X5_listeners (by omega) (by omega)) (fun r σ' hr58 hq => ?_)
      obtain ⟨rfl, hq⟩ := hq
      replace hq := hq.symm
      subst hq
      refine Ev.int rfl dX5_bus_61 ?_
      unfold p_bus
      first | rfl | (repeat (first | rw [if_pos (by omega)] | rw [if_neg (by omega)]))
    · refine Ev.tabIn (tgt := 62) dX5_bus_1 (by decide) (by decide) rfl rfl ?_
      refine Ev.aload_n dX5_bus_62 rfl ?_
      refine Ev.geti (5) dX5_bus_63 fl_X5_51 lm_0 (by decide) rfl rfl ?_
      refine Ev.int rfl dX5_bus_66 ?_
      unfold p_bus
      first | rfl | (repeat (first | rw [if_pos (by omega)] | rw [if_neg (by omega)]))
    · refine Ev.tabIn (tgt := 67) dX5_bus_1 (by decide) (by decide) rfl rfl ?_
      refine Ev.aload_n dX5_bus_67 rfl ?_
      refine Ev.geti (6) dX5_bus_68 fl_X5_54 lm_0 (by decide) rfl rfl ?_
      refine Ev.int rfl dX5_bus_71 ?_
      unfold p_bus
      first | rfl | (repeat (first | rw [if_pos (by omega)] | rw [if_neg (by omega)]))
    · refine Ev.tabIn (tgt := 72) dX5_bus_1 (by decide) (by decide) rfl rfl ?_
      refine Ev.aload_n dX5_bus_72 rfl ?_
      refine Ev.geti (7) dX5_bus_73 fl_X5_57 lm_0 (by decide) rfl rfl ?_
      refine Ev.int rfl dX5_bus_76 ?_
      unfold p_bus
      first | rfl | (repeat (first | rw [if_pos (by omega)] | rw [if_neg (by omega)]))
    · refine Ev.tabIn (tgt := 77) dX5_bus_1 (by decide) (by decide) rfl rfl ?_
      refine Ev.aload_n dX5_bus_77 rfl ?_
      refine Ev.Vi0 (I' := jX5_anyAsks) ml_X5_173 dX5_bus_78 cyX5_anyAsks lm_0 rfl (by decide) ⟨by decide, by decide⟩ (by simp) rfl rfl (s_X5_anyAsks (by omega) (by omega)) (fun r σ' hr78 hq => ?_)
      obtain ⟨rfl, hq⟩ := hq
      replace hq := hq.symm
      subst hq
      refine Ev.int rfl dX5_bus_81 ?_
      unfold p_bus
      first | rfl | (repeat (first | rw [if_pos (by omega)] | rw [if_neg (by omega)]))
    · refine Ev.tabIn (tgt := 82) dX5_bus_1 (by decide) (by decide) rfl rfl ?_
      refine Ev.aload_n dX5_bus_82 rfl ?_
      refine Ev.Vi0 (I' := jX5_takers) ml_X5_157 dX5_bus_83 cyX5_takers lm_0 rfl (by decide) ⟨by decide, by decide⟩ (by simp) rfl rfl (s_X5_takers hM) (fun r σ' hr83 hq => ?_)
      obtain ⟨rfl, hq⟩ := hq
      replace hq := hq.symm
      subst hq
      refine Ev.if_ne (tgt := 94) dX5_bus_86 rfl (fun c86 => ?_) (fun c86 => ?_)
      · skip
        refine Ev.aload_n dX5_bus_94 rfl ?_
        refine Ev.aload_n dX5_bus_95 rfl ?_
        refine Ev.Vi0 (I' := jX5_takers) ml_X5_157 dX5_bus_96 cyX5_takers lm_0 rfl (by decide) ⟨by decide, by decide⟩ (by simp) rfl rfl (s_X5_takers hM) (fun r σ' hr96 hq => ?_)
        obtain ⟨rfl, hq⟩ := hq
        replace hq := hq.symm
        subst hq
        refine Ev.Vi1 (I' := jX5_slowest) ml_X5_129 dX5_bus_99 cyX5_slowest lm_0 rfl (by decide) ⟨by decide, by decide⟩ (by simp) rfl rfl (s_X5_slowest (by omega) (by omega)) (fun r σ' hr99 hq => ?_)
        obtain ⟨rfl, hq⟩ := hq
        replace hq := hq.symm
        subst hq
        refine Ev.iconst dX5_bus_102 ⟨by decide, by decide⟩ ?_
        have hsl := m_slow_rng (set := m_takers σ) hM
        refine Ev.iadd dX5_bus_103 (by unfold ev_in; omega) ?_
        refine Ev.int rfl dX5_bus_104 ?_
        unfold p_bus
        first | rfl | (repeat (first | rw [if_pos (by omega)] | rw [if_neg (by omega)]))
      · skip
        refine Ev.bipush dX5_bus_89 ⟨by decide, by decide⟩ (by decide) ?_
        refine Ev.goto (tgt := 104) dX5_bus_91 rfl ?_
        refine Ev.int rfl dX5_bus_104 ?_
        unfold p_bus
        first | rfl | (repeat (first | rw [if_pos (by omega)] | rw [if_neg (by omega)]))
    · refine Ev.tabIn (tgt := 105) dX5_bus_1 (by decide) (by decide) rfl rfl ?_
      refine Ev.aload_n dX5_bus_105 rfl ?_
      refine Ev.geti (2) dX5_bus_106 fl_X5_44 lm_0 (by decide) rfl rfl ?_
      refine Ev.int rfl dX5_bus_109 ?_
      unfold p_bus
      first | rfl | (repeat (first | rw [if_pos (by omega)] | rw [if_neg (by omega)]))
    · refine Ev.tabIn (tgt := 110) dX5_bus_1 (by decide) (by decide) rfl rfl ?_
      refine Ev.aload_n dX5_bus_110 rfl ?_
      refine Ev.geti (0) dX5_bus_111 fl_X5_69 lm_0 (by decide) rfl rfl ?_
      refine Ev.int rfl dX5_bus_114 ?_
      unfold p_bus
      first | rfl | (repeat (first | rw [if_pos (by omega)] | rw [if_neg (by omega)]))
  · refine Ev.tabOut (tgt := 115) dX5_bus_1 (by omega) rfl ?_
    refine Ev.iconst dX5_bus_115 ⟨by decide, by decide⟩ ?_
    refine Ev.int rfl dX5_bus_116 ?_
    unfold p_bus
    first | rfl | (repeat (first | rw [if_pos (by omega)] | rw [if_neg (by omega)]))
