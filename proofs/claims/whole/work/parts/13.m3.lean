/-! the reference: ticks, the log, commands -/
theorem it_MI0 {f : Int → ev_M → ev_M} (hf : ∀ (i : Nat) (b : Int) (τ : ev_M), i < 6 → MI b τ → MI b (f (i : Int) τ)) {b : Int} {τ : ev_M} (h : MI b τ) : ∀ k : Nat, k ≤ 6 → MI b (it f τ k)
  | 0, _ => h
  | k + 1, hk => hf k _ _ (by omega) (it_MI0 hf h k (by omega))
theorem it_MI1 {f : Int → ev_M → ev_M} (hf : ∀ (i : Nat) (b : Int) (τ : ev_M), i < 6 → MI b τ → MI (b + 1) (f (i : Int) τ)) {b : Int} {τ : ev_M} (h : MI b τ) (k : Nat) (hk : k ≤ 6) : MI (b + 6) (it f τ k) := (it_MI hf h k hk).mono (by omega)
theorem MI.nat2 {b : Int} {τ : ev_M} (h : MI b τ) : (τ 2).toNat ≤ 6 := by have := h.s2; omega
def m_comes (τ : ev_M) : ev_M := it m_cm τ (τ 2).toNat
theorem MI.comes {b : Int} {τ : ev_M} (h : MI b τ) : MI (b + 6) (m_comes τ) := it_MI1 (fun i b τ hi h => h.cm (by omega) (by omega)) h _ h.nat2
theorem m_comes_o {b n : Int} {τ : ev_M} (h : MI b τ) (hn : n < 300) : m_comes τ n = τ n := it_at' _ (fun i σ hi => m_cm_o (by omega) (by have := h.nat2; omega) hn)
def m_tick1 (τ : ev_M) : ev_M := m_comes (ev_up τ 7 (τ 7 + 1))
theorem MI.now1 {b : Int} {τ : ev_M} (h : MI b τ) : MI (b + 1) (ev_up τ 7 (τ 7 + 1)) := (h.mono (by omega)).t7 (by have := h.s7; omega) (by have := h.s7; omega)
theorem MI.tick1 {b : Int} {τ : ev_M} (h : MI b τ) : MI (b + 7) (m_tick1 τ) := (h.now1.comes).mono (by omega)
theorem m_tick1_o {b n : Int} {τ : ev_M} (h : MI b τ) (hn : n < 300) (h7 : n ≠ 7) : m_tick1 τ n = τ n := by
  unfold m_tick1
  rw [m_comes_o h.now1 hn, ev_up_ne h7]
theorem m_tick1_7 {b : Int} {τ : ev_M} (h : MI b τ) : m_tick1 τ 7 = τ 7 + 1 := by
  unfold m_tick1
  rw [m_comes_o h.now1 (by decide), ev_up_eq]
def m_ticks (τ : ev_M) : Nat → ev_M
  | 0 => τ
  | k + 1 => m_tick1 (m_ticks τ k)
theorem MI.ticks {b : Int} {τ : ev_M} (h : MI b τ) : ∀ k : Nat, MI (b + 7 * (k : Int)) (m_ticks τ k)
  | 0 => by rw [show b + 7 * ((0 : Nat) : Int) = b by simp]; exact h
  | k + 1 => (MI.ticks h k).tick1.mono (by omega)
theorem m_ticks_o {b n : Int} {τ : ev_M} (h : MI b τ) (hn : n < 300) (h7 : n ≠ 7) : ∀ k : Nat, m_ticks τ k n = τ n
  | 0 => rfl
  | k + 1 => by show m_tick1 (m_ticks τ k) n = τ n; rw [m_tick1_o (h.ticks k) hn h7, m_ticks_o h hn h7 k]
theorem m_ticks_7 {b : Int} {τ : ev_M} (h : MI b τ) : ∀ k : Nat, m_ticks τ k 7 = τ 7 + (k : Int)
  | 0 => by show τ 7 = τ 7 + ((0 : Nat) : Int); simp
  | k + 1 => by show m_tick1 (m_ticks τ k) 7 = _; rw [m_tick1_7 (h.ticks k), m_ticks_7 h k]; omega
theorem s_X5_ticks {b n : Int} {σ : ev_M} (hn0 : 0 ≤ n) (hn : n ≤ 1000) (hM : MI b σ) (hb : b ≤ 900000000) : Ev jX5_ticks layM 0 [some (rv 0), some (iv n), none] [] σ (fun _ σ' => σ' = m_ticks σ n.toNat) := by
  have loop : ∀ (j k : Nat) (ρ : ev_M), (k : Int) + j = n → ρ = m_ticks σ k → Ev jX5_ticks layM 2 [some (rv 0), some (iv n), some (iv (k : Int))] [] ρ (fun _ σ' => σ' = m_ticks σ n.toNat) := by
    intro j
    induction j with
    | zero =>
      intro k ρ hk hρ
      refine Ev.iload_n dX5_ticks_2 rfl ?_
      refine Ev.iload_n dX5_ticks_3 rfl ?_
      refine Ev.icmp_ge (tgt := 27) dX5_ticks_4 rfl (fun c4 => ?_) (fun c4 => ?_)
      · skip
        refine Ev.vret dX5_ticks_27 rfl ?_
        rw [hρ, show n.toNat = k by omega]
      · skip
        exact absurd c4 (by omega)
    | succ j ih =>
      intro k ρ hk hρ
      have hMk := hM.ticks k
      rw [← hρ] at hMk
      have e7 := hMk.s7
      have hMn := hMk.now1
      have e2 := hMn.s2
      refine Ev.iload_n dX5_ticks_2 rfl ?_
      refine Ev.iload_n dX5_ticks_3 rfl ?_
      refine Ev.icmp_ge (tgt := 27) dX5_ticks_4 rfl (fun c4 => ?_) (fun c4 => ?_)
      · skip
        exact absurd c4 (by omega)
      · skip
        refine Ev.aload_n dX5_ticks_7 rfl ?_
        refine Ev.dup dX5_ticks_8 ?_
        refine Ev.geti (7) dX5_ticks_9 fl_X5_57 lm_0 (by decide) rfl rfl ?_
        refine Ev.iconst dX5_ticks_12 ⟨by decide, by decide⟩ ?_
        refine Ev.iadd dX5_ticks_13 (by unfold ev_in; omega) ?_
        refine Ev.puti (7) dX5_ticks_14 fl_X5_57 ft_5_7 lm_0 (by decide) rfl rfl ?_
        refine Ev.aload_n dX5_ticks_17 rfl ?_
        refine Ev.Vv0 (I' := jX5_comes) ml_X5_104 dX5_ticks_18 cyX5_comes lm_0 rfl (by decide) ⟨by decide, by decide⟩ (by simp) rfl rfl (s_X5_comes hMn (by omega) (by omega) (by omega)) (fun σ' hq => ?_)
        subst hq
        refine Ev.iinc2 dX5_ticks_21 (by unfold ev_in; omega) ?_
        refine Ev.goto (tgt := 2) dX5_ticks_24 rfl ?_
        refine ih (k + 1) _ (by omega) ?_
        rw [show m_ticks σ (k + 1) = m_tick1 (m_ticks σ k) from rfl, ← hρ]
        rfl
  refine Ev.iconst dX5_ticks_0 ⟨by decide, by decide⟩ ?_
  refine Ev.istore2 rfl dX5_ticks_1 ?_
  exact loop n.toNat 0 σ (by omega) rfl
def lg (k : Int) (τ : ev_M) : ev_M := fun n => if (580 + k < n ∧ n < 596) ∨ (600 + k < n ∧ n < 616) ∨ (620 + k < n ∧ n < 636) then τ (n - 1) else τ n
def m_logs (c : Int) (τ : ev_M) : ev_M := ev_up (ev_up (ev_up (ev_up (lg 0 τ) 580 (τ 7)) 600 c) 620 (τ 5)) 11 (if τ 11 < 16 then τ 11 + 1 else 16)
theorem lg_o {k n : Int} {τ : ev_M} (h : n ≤ 580 + k ∨ (596 ≤ n ∧ n ≤ 600 + k) ∨ (616 ≤ n ∧ n ≤ 620 + k) ∨ 636 ≤ n) (hk : 0 ≤ k) (hk2 : k ≤ 15) : lg k τ n = τ n := by
  unfold lg
  rw [if_neg (by omega)]
theorem lg_s {k : Int} {τ : ev_M} (hk : 0 ≤ k) (hk2 : k < 15) : ev_up (ev_up (ev_up (lg (k + 1) τ) (580 + (k + 1)) (τ (580 + k))) (600 + (k + 1)) (τ (600 + k))) (620 + (k + 1)) (τ (620 + k)) = lg k τ := by
  funext n
  by_cases h1 : n = 620 + (k + 1)
  · rw [ev_up_eqs h1]; unfold lg; rw [if_pos (by omega)]; congr 1; omega
  · rw [ev_up_ne h1]
    by_cases h2 : n = 600 + (k + 1)
    · rw [ev_up_eqs h2]; unfold lg; rw [if_pos (by omega)]; congr 1; omega
    · rw [ev_up_ne h2]
      by_cases h3 : n = 580 + (k + 1)
      · rw [ev_up_eqs h3]; unfold lg; rw [if_pos (by omega)]; congr 1; omega
      · rw [ev_up_ne h3]
        unfold lg
        by_cases h4 : (580 + k < n ∧ n < 596) ∨ (600 + k < n ∧ n < 616) ∨ (620 + k < n ∧ n < 636)
        · rw [if_pos h4, if_pos (by omega)]
        · rw [if_neg h4, if_neg (by omega)]
theorem s_X5_logs {c : Int} {σ : ev_M} (h11 : 0 ≤ σ 11) (h11' : σ 11 ≤ 16) : Ev jX5_logs layM 0 [some (rv 0), some (iv c), none] [] σ (fun _ σ' => σ' = m_logs c σ) := by
  have loop : ∀ (j : Nat) (ρ : ev_M), j ≤ 15 → ρ = lg (j : Int) σ → Ev jX5_logs layM 3 [some (rv 0), some (iv c), some (iv (j : Int))] [] ρ (fun _ σ' => σ' = m_logs c σ) := by
    intro j
    induction j with
    | zero =>
      intro ρ hj hρ
      have e7 : ρ 7 = σ 7 := by rw [hρ]; exact lg_o (by decide) (by decide) (by decide)
      have e5 : ρ 5 = σ 5 := by rw [hρ]; exact lg_o (by decide) (by decide) (by decide)
      have e11 : ρ 11 = σ 11 := by rw [hρ]; exact lg_o (by decide) (by decide) (by decide)
      refine Ev.iload_n dX5_logs_3 rfl ?_
      refine Ev.if_le (tgt := 55) dX5_logs_4 rfl (fun c4 => ?_) (fun c4 => ?_)
      · skip
        refine Ev.aload_n dX5_logs_55 rfl ?_
        refine Ev.getr (580) dX5_logs_56 fl_X5_22 lm_0 (by decide) rfl rfl ?_
        refine Ev.iconst dX5_logs_59 ⟨by decide, by decide⟩ ?_
        refine Ev.aload_n dX5_logs_60 rfl ?_
        refine Ev.geti (7) dX5_logs_61 fl_X5_57 lm_0 (by decide) rfl rfl ?_
        refine Ev.iastn (580) dX5_logs_64 lm_580 (by decide) (by decide) rfl ?_
        refine Ev.aload_n dX5_logs_65 rfl ?_
        refine Ev.getr (600) dX5_logs_66 fl_X5_25 lm_0 (by decide) rfl rfl ?_
        refine Ev.iconst dX5_logs_69 ⟨by decide, by decide⟩ ?_
        refine Ev.iload_n dX5_logs_70 rfl ?_
        refine Ev.iastn (600) dX5_logs_71 lm_600 (by decide) (by decide) rfl ?_
        refine Ev.aload_n dX5_logs_72 rfl ?_
        refine Ev.getr (620) dX5_logs_73 fl_X5_28 lm_0 (by decide) rfl rfl ?_
        refine Ev.iconst dX5_logs_76 ⟨by decide, by decide⟩ ?_
        refine Ev.aload_n dX5_logs_77 rfl ?_
        refine Ev.geti (5) dX5_logs_78 fl_X5_51 lm_0 (by decide) rfl rfl ?_
        try simp (disch := omega) only [ev_up_ne, ev_up_eqs]
        refine Ev.iastn (620) dX5_logs_81 lm_620 (by decide) (by decide) rfl ?_
        refine Ev.aload_n dX5_logs_82 rfl ?_
        refine Ev.aload_n dX5_logs_83 rfl ?_
        refine Ev.geti (11) dX5_logs_84 fl_X5_66 lm_0 (by decide) rfl rfl ?_
        try simp (disch := omega) only [ev_up_ne, ev_up_eqs]
        refine Ev.bipush dX5_logs_87 ⟨by decide, by decide⟩ (by decide) ?_
        refine Ev.icmp_ge (tgt := 101) dX5_logs_89 rfl (fun c89 => ?_) (fun c89 => ?_)
        · skip
          refine Ev.bipush dX5_logs_101 ⟨by decide, by decide⟩ (by decide) ?_
          refine Ev.puti (11) dX5_logs_103 fl_X5_66 ft_5_11 lm_0 (by decide) rfl rfl ?_
          refine Ev.vret dX5_logs_106 rfl ?_
          unfold m_logs
          rw [← e7, ← e5, ← e11, hρ]
          first | rw [if_pos (by rw [← hρ]; omega)] | rw [if_neg (by rw [← hρ]; omega)]
          rfl
        · skip
          refine Ev.aload_n dX5_logs_92 rfl ?_
          refine Ev.geti (11) dX5_logs_93 fl_X5_66 lm_0 (by decide) rfl rfl ?_
          try simp (disch := omega) only [ev_up_ne, ev_up_eqs]
          refine Ev.iconst dX5_logs_96 ⟨by decide, by decide⟩ ?_
          refine Ev.iadd dX5_logs_97 (by unfold ev_in; omega) ?_
          refine Ev.goto (tgt := 103) dX5_logs_98 rfl ?_
          refine Ev.puti (11) dX5_logs_103 fl_X5_66 ft_5_11 lm_0 (by decide) rfl rfl ?_
          refine Ev.vret dX5_logs_106 rfl ?_
          unfold m_logs
          rw [← e7, ← e5, ← e11, hρ]
          first | rw [if_pos (by rw [← hρ]; omega)] | rw [if_neg (by rw [← hρ]; omega)]
          rfl
      · skip
        exact absurd c4 (by decide)
    | succ j ih =>
      intro ρ hj hρ
      have r1 : ρ (580 + (((j + 1 : Nat) : Int) - 1)) = σ (580 + (j : Int)) := by rw [hρ, lg_o (by omega) (by omega) (by omega)]; congr 1; omega
      have r2 : ρ (600 + (((j + 1 : Nat) : Int) - 1)) = σ (600 + (j : Int)) := by rw [hρ, lg_o (by omega) (by omega) (by omega)]; congr 1; omega
      have r3 : ρ (620 + (((j + 1 : Nat) : Int) - 1)) = σ (620 + (j : Int)) := by rw [hρ, lg_o (by omega) (by omega) (by omega)]; congr 1; omega
      refine Ev.iload_n dX5_logs_3 rfl ?_
      refine Ev.if_le (tgt := 55) dX5_logs_4 rfl (fun c4 => ?_) (fun c4 => ?_)
      · skip
        exact absurd c4 (by omega)
      · skip
        refine Ev.aload_n dX5_logs_7 rfl ?_
        refine Ev.getr (580) dX5_logs_8 fl_X5_22 lm_0 (by decide) rfl rfl ?_
        refine Ev.iload_n dX5_logs_11 rfl ?_
        refine Ev.aload_n dX5_logs_12 rfl ?_
        refine Ev.getr (580) dX5_logs_13 fl_X5_22 lm_0 (by decide) rfl rfl ?_
        refine Ev.iload_n dX5_logs_16 rfl ?_
        refine Ev.iconst dX5_logs_17 ⟨by decide, by decide⟩ ?_
        refine Ev.isub dX5_logs_18 (by unfold ev_in; omega) ?_
        refine Ev.iald dX5_logs_19 lm_580 (Or.inl rfl) (by omega) (by omega) ?_
        refine Ev.iast dX5_logs_20 lm_580 (by omega) (by omega) ?_
        refine Ev.aload_n dX5_logs_21 rfl ?_
        refine Ev.getr (600) dX5_logs_22 fl_X5_25 lm_0 (by decide) rfl rfl ?_
        refine Ev.iload_n dX5_logs_25 rfl ?_
        refine Ev.aload_n dX5_logs_26 rfl ?_
        refine Ev.getr (600) dX5_logs_27 fl_X5_25 lm_0 (by decide) rfl rfl ?_
        refine Ev.iload_n dX5_logs_30 rfl ?_
        refine Ev.iconst dX5_logs_31 ⟨by decide, by decide⟩ ?_
        refine Ev.isub dX5_logs_32 (by unfold ev_in; omega) ?_
        refine Ev.iald dX5_logs_33 lm_600 (Or.inl rfl) (by omega) (by omega) ?_
        try simp (disch := omega) only [ev_up_ne, ev_up_eqs]
        refine Ev.iast dX5_logs_34 lm_600 (by omega) (by omega) ?_
        refine Ev.aload_n dX5_logs_35 rfl ?_
        refine Ev.getr (620) dX5_logs_36 fl_X5_28 lm_0 (by decide) rfl rfl ?_
        refine Ev.iload_n dX5_logs_39 rfl ?_
        refine Ev.aload_n dX5_logs_40 rfl ?_
        refine Ev.getr (620) dX5_logs_41 fl_X5_28 lm_0 (by decide) rfl rfl ?_
        refine Ev.iload_n dX5_logs_44 rfl ?_
        refine Ev.iconst dX5_logs_45 ⟨by decide, by decide⟩ ?_
        refine Ev.isub dX5_logs_46 (by unfold ev_in; omega) ?_
        refine Ev.iald dX5_logs_47 lm_620 (Or.inl rfl) (by omega) (by omega) ?_
        try simp (disch := omega) only [ev_up_ne, ev_up_eqs]
        refine Ev.iast dX5_logs_48 lm_620 (by omega) (by omega) ?_
        refine Ev.iinc2 dX5_logs_49 (by unfold ev_in; omega) ?_
        refine Ev.goto (tgt := 3) dX5_logs_52 rfl ?_
        rw [show ((j + 1 : Nat) : Int) + -1 = (j : Int) by omega]
        refine ih _ (by omega) ?_
        rw [r1, r2, r3, hρ]
        exact lg_s (k := (j : Int)) (by omega) (by omega)
  refine Ev.bipush dX5_logs_0 ⟨by decide, by decide⟩ (by decide) ?_
  refine Ev.istore2 rfl dX5_logs_2 ?_
  exact loop 15 σ (by decide) (by funext n; exact (by unfold lg; rw [if_neg (by omega)] : lg ((15 : Nat) : Int) σ n = σ n).symm)
theorem MI.lg0 {b : Int} {τ : ev_M} (h : MI b τ) : MI b (lg 0 τ) := by
  intro n
  unfold lg
  split
  · next hn =>
    have e1 : mlo n = -2147483648 := by
      unfold mlo
      repeat' split
      all_goals omega
    have e2 : mhi b n = 2147483647 := by
      unfold mhi
      repeat' split
      all_goals omega
    have e3 : mlo (n - 1) = -2147483648 := by
      unfold mlo
      repeat' split
      all_goals omega
    have e4 : mhi b (n - 1) = 2147483647 := by
      unfold mhi
      repeat' split
      all_goals omega
    have := h (n - 1)
    rw [e3, e4] at this
    rw [e1, e2]
    exact this
  · exact h n
theorem MI.logs {b c : Int} {τ : ev_M} (h : MI b τ) (hb : b ≤ 1000000000) (hc : ev_in c) : MI b (m_logs c τ) := by
  have h7 := h.s7
  have h5 := h.s5
  have h11 := h.s11
  unfold m_logs
  exact (((h.lg0.ufree (by omega) (by unfold ev_in; omega)).ufree (by omega) hc).ufree (by omega) (by unfold ev_in; omega)).t11 (by split <;> omega) (by split <;> omega)
theorem m_logs_o {c n : Int} {τ : ev_M} (h : n < 580) (h11 : n ≠ 11) : m_logs c τ n = τ n := by
  unfold m_logs
  rw [ev_up_ne h11, ev_up_ne (by omega), ev_up_ne (by omega), ev_up_ne (by omega), lg_o (by omega) (by decide) (by decide)]
theorem m_all_o {w v d n : Int} {τ : ev_M} (hd : 0 ≤ d) (hd2 : d < 6) (hw : 0 ≤ w) (hw2 : w < 18) (hn : n < 300 ∨ 408 ≤ n) : m_all w v d τ n = τ n := ev_up_ne (by omega)
theorem it_all_o {w v n : Int} {τ : ev_M} {k : Nat} (hk : k ≤ 6) (hw : 0 ≤ w) (hw2 : w < 18) (hn : n < 300 ∨ 408 ≤ n) : it (m_all w v) τ k n = τ n := it_at' k (fun i σ hi => m_all_o (by omega) (by omega) hw hw2 hn)
theorem MI.itall {w v : Int} (hv : ∀ b d : Int, 0 ≤ d → d < 6 → mlo (300 + (18 * d + w)) ≤ v ∧ v ≤ mhi b (300 + (18 * d + w))) {b : Int} {τ : ev_M} (h : MI b τ) (k : Nat) (hk : k ≤ 6) : MI b (it (m_all w v) τ k) := it_MI0 (fun i b τ hi h => h.up (hv b i (by omega) (by omega)).1 (hv b i (by omega) (by omega)).2) h k hk
theorem MI.itall5 {b : Int} {τ : ev_M} (h : MI b τ) (k : Nat) (hk : k ≤ 6) : MI b (it (m_all 5 0) τ k) := h.itall (fun b d h0 h1 => by rw [mlo_5 h0 h1, mhi_5 h0 h1]; decide) k hk
theorem MI.itall6 {b : Int} {τ : ev_M} (h : MI b τ) (k : Nat) (hk : k ≤ 6) : MI b (it (m_all 6 0) τ k) := h.itall (fun b d h0 h1 => by rw [mlo_6 h0 h1, mhi_6 h0 h1]; decide) k hk
theorem MI.itall8 {b : Int} {τ : ev_M} (h : MI b τ) (k : Nat) (hk : k ≤ 6) : MI b (it (m_all 8 1) τ k) := h.itall (fun b d h0 h1 => by rw [mlo_8 h0 h1, mhi_8 h0 h1]; decide) k hk
theorem MI.itall11 {b : Int} {τ : ev_M} (h : MI b τ) (k : Nat) (hk : k ≤ 6) : MI b (it (m_all 11 (-4)) τ k) := h.itall (fun b d h0 h1 => by rw [mlo_11 h0 h1, mhi_11 h0 h1]; decide) k hk
theorem MI.itall17 {b : Int} {τ : ev_M} (h : MI b τ) (k : Nat) (hk : k ≤ 6) : MI b (it (m_all 17 0) τ k) := h.itall (fun b d h0 h1 => by rw [mlo_17 h0 h1, mhi_17 h0 h1]; decide) k hk
theorem MI.clears {b d : Int} {τ : ev_M} (h : MI b τ) (h0 : 0 ≤ d) (h1 : d < 6) : MI b (m_clears d τ) := ((((h.u9 h0 h1 (by decide) (by decide)).u10 h0 h1 (by decide) (by decide)).u14 h0 h1 (by decide) (by have := h.s7; omega)).u15 h0 h1 (by decide) (by decide)).u16 h0 h1 (by decide) (by decide)
theorem MI.trig {b d : Int} {τ : ev_M} (h : MI b τ) (h0 : 0 ≤ d) (h1 : d < 6) : MI (b + 1) (m_trig d τ) := by
  have hs := h.sum (n := 577) (by decide) (by decide)
  have h13 := h.h13 h0 h1
  have h4 := h.h4 h0 h1
  have h7 := h.s7
  have h' := (((h.mono (show b ≤ b + 1 by omega)).u13 h0 h1 (v := if τ (300 + (18 * d + 13)) < 999 then τ (300 + (18 * d + 13)) + 1 else 999) (by split <;> omega) (by split <;> omega)).usum (n := 577) (v := τ 577 + 1) (by decide) (by decide) (by omega) (by omega))
  by_cases hk : τ (300 + (18 * d + 0)) = 1
  · unfold m_trig
    dsimp only
    rw [if_pos hk]
    exact h'.u14 h0 h1 (by omega) (by omega)
  · unfold m_trig
    dsimp only
    rw [if_neg hk]
    exact h'
theorem MI.toL {b d c : Int} {τ : ev_M} (h : MI b τ) (h0 : 0 ≤ d) (h1 : d < 6) : MI (b + 1) (m_toL d c τ) := by
  unfold m_toL
  split
  · exact (h.mono (by omega)).u7 h0 h1 (by decide) (by decide)
  · split
    · exact (h.clears h0 h1).mono (by omega)
    · split
      · exact h.trig h0 h1
      · exact h.mono (by omega)
def m_tl (c set : Int) (d : Int) (τ : ev_M) : ev_M := if c = 20 then m_clears d τ else if ev_and (ev_shr set d) 1 = 1 then m_toL d c τ else τ
theorem MI.tl {b d c set : Int} {τ : ev_M} (h : MI b τ) (h0 : 0 ≤ d) (h1 : d < 6) : MI (b + 1) (m_tl c set d τ) := by
  unfold m_tl
  split
  · exact (h.clears h0 h1).mono (by omega)
  · split
    · exact h.toL h0 h1
    · exact h.mono (by omega)
theorem m_tl_o {c set d n : Int} {τ : ev_M} (h0 : 0 ≤ d) (h1 : d < 6) (hn : n < 300) : m_tl c set d τ n = τ n := by
  unfold m_tl m_toL m_clears m_trig
  repeat' split
  all_goals first | rfl | simp (disch := omega) only [ev_up_ne]
theorem MI.addr {b d a how : Int} {τ : ev_M} (h : MI b τ) (h0 : 0 ≤ d) (h1 : d < 6) (hh : 1 ≤ how) (hh2 : how ≤ 2) : MI b (m_addr a how d τ) := by
  unfold m_addr
  split
  · split
    · exact h.u17 h0 h1 (by omega) (by omega)
    · split
      · exact (h.u6 h0 h1 (by decide) (by decide)).u7 h0 h1 (by decide) (by decide)
      · exact h.u5 h0 h1 (by decide) (by decide)
  · exact h
theorem MI.sec {b d s tl tt : Int} {τ : ev_M} (h : MI b τ) (h0 : 0 ≤ d) (h1 : d < 6) : MI b (m_sec s tl tt d τ) := by
  have hs : MI b (m_sec1 s tl d τ) := by
    unfold m_sec1
    split
    · exact (h.u6 h0 h1 (by decide) (by decide)).u7 h0 h1 (by decide) (by decide)
    · exact h
  unfold m_sec
  split
  · exact (hs.itall5 _ h.nat2).u5 h0 h1 (by decide) (by decide)
  · exact hs
theorem MI.prep {b d c : Int} {τ : ev_M} (h : MI b τ) (h0 : 0 ≤ d) (h1 : d < 6) (hc : 96 ≤ c) : MI b (m_prep c d τ) := by
  unfold m_prep
  split
  · exact (h.u11 h0 h1 (by split <;> omega) (by split <;> omega)).u12 h0 h1 (by split <;> omega) (by split <;> omega)
  · exact h
theorem MI.pass {b : Int} {τ : ev_M} (h : MI b τ) : MI (b + 1) (m_pass τ) := by
  have h2 := h.s2
  have ht := m_talk_rng h2.1
  have hs := h.sum (n := 576) (by decide) (by decide)
  unfold m_pass
  split
  · exact (((h.mono (by omega)).t5 (by omega) (by omega)).u5 (by omega) (by omega) (by decide) (by decide)).usum (by decide) (by decide) (by omega) (by omega)
  · exact h.mono (by omega)
def tlr (x : Int) (τ : ev_M) : Nat → Int
  | 0 => 0
  | k + 1 => ev_or (tlr x τ k) (if τ (300 + (18 * (k : Int) + 17)) = x then ev_shl 1 (k : Int) else 0)
def m_obey (c tl tt : Int) (τ : ev_M) : ev_M :=
  if c < 9 ∨ c = 20 then m_comes (it (m_tl c (m_lis τ)) τ (τ 2).toNat)
  else if c = 9 then m_pass τ
  else if c = 17 then it (m_all 8 1) τ (τ 2).toNat
  else if c = 21 then it (m_all 11 (-4)) τ (τ 2).toNat
  else if c = 24 ∨ c = 25 then ev_up τ 6 (25 - c)
  else if c = 63 then it (m_all 6 0) τ (τ 2).toNat
  else if 32 ≤ c ∧ c ≤ 62 then it (m_addr (c - 32) 1) τ (τ 2).toNat
  else if 64 ≤ c ∧ c ≤ 95 then it (m_addr (if c = 95 then -4 else c - 64) 2) (it (m_all 5 0) τ (τ 2).toNat) (τ 2).toNat
  else if 95 < c then (if τ 8 = 5 then it (m_prep c) τ (τ 2).toNat else if c < 127 then it (m_sec (c - 96) tl tt) τ (τ 2).toNat else τ)
  else τ
def m_end (c set : Int) (τ : ev_M) : ev_M := ev_up (ev_up τ 9 (if c = 5 then set else 0)) 8 c
def m_pre (c : Int) (τ : ev_M) : ev_M := ev_up (m_logs c τ) 570 (m_logs c τ 570 + 1)
def m_tkd (c : Int) (τ : ev_M) : ev_M := m_ticks (m_pre c τ) (m_slow 63 (m_pre c τ)).toNat
def m_sends (c : Int) (τ : ev_M) : ev_M :=
  m_end c (m_lis (it (m_all 17 0) (m_tkd c τ) (m_tkd c τ 2).toNat)) (m_obey c (tlr 1 (m_tkd c τ) (m_tkd c τ 2).toNat) (tlr 2 (m_tkd c τ) (m_tkd c τ 2).toNat) (it (m_all 17 0) (m_tkd c τ) (m_tkd c τ 2).toNat))
theorem MI.obey {b c tl tt : Int} {τ : ev_M} (h : MI b τ) (h0 : 0 ≤ c) (h1 : c ≤ 127) : MI (b + 12) (m_obey c tl tt τ) := by
  have hn := h.nat2
  have hm := h.mono (show b ≤ b + 12 by omega)
  unfold m_obey
  split
  · exact ((it_MI1 (fun i b τ hi h => h.tl (by omega) (by omega)) h _ hn).comes).mono (by omega)
  · split
    · exact h.pass.mono (by omega)
    · split
      · exact hm.itall8 _ hn
      · split
        · exact hm.itall11 _ hn
        · split
          · exact hm.t6 (by omega) (by omega)
          · split
            · exact hm.itall6 _ hn
            · split
              · exact it_MI0 (fun i b τ hi h => h.addr (by omega) (by omega) (by decide) (by decide)) hm _ hn
              · split
                · exact it_MI0 (fun i b τ hi h => h.addr (by omega) (by omega) (by decide) (by decide)) (hm.itall5 _ hn) _ hn
                · split
                  · split
                    · exact it_MI0 (fun i b τ hi h => h.prep (by omega) (by omega) (by omega)) hm _ hn
                    · split
                      · exact it_MI0 (fun i b τ hi h => h.sec (by omega) (by omega)) hm _ hn
                      · exact hm
                  · exact hm
theorem MI.pre {b c : Int} {τ : ev_M} (h : MI b τ) (hb : b ≤ 1000000000) (hc : ev_in c) : MI (b + 1) (m_pre c τ) := by
  have h1 := h.logs hb hc
  have h2 := h1.sum (n := 570) (by decide) (by decide)
  exact (h1.mono (by omega)).usum (by decide) (by decide) (by omega) (by omega)
theorem MI.tkd {b c : Int} {τ : ev_M} (h : MI b τ) (hb : b ≤ 1000000000) (hc : ev_in c) : MI (b + 64) (m_tkd c τ) := by
  have h1 := h.pre hb hc
  have h2 := m_slow_rng (set := 63) h1
  exact (h1.ticks _).mono (by omega)
