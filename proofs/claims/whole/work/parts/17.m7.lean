/-! the reference: bytes given, polls, over the machine -/
theorem gb_in {b : Int} {τ : ev_M} (h : MI b τ) (hs : m_takers τ ≠ 0) (hb : b ≤ 1000000000) (hin : ∀ n, ev_in (m_gtk τ n)) : ev_in (m_gb τ) := by
  have h2 := h.s2
  obtain ⟨t0, t1, t3, -⟩ := takers_f h2.1 hs
  have a9 := h.gtk.h9 (d := m_talk τ) (by omega) (by omega)
  have a10 := h.gtk.h10 (d := m_talk τ) (by omega) (by omega)
  unfold m_gb
  split
  · unfold ev_in; omega
  · exact hin _
theorem MI.in {b n : Int} {τ : ev_M} (h : MI b τ) (hb : b ≤ 1000000000) (hn : (420 ≤ n ∧ n < 564)) : ev_in (τ n) := by
  have h2 := h n
  have e1 : mlo n = -2147483648 := by
    unfold mlo
    repeat' split
    all_goals omega
  have e2 : mhi b n = 2147483647 := by
    unfold mhi
    repeat' split
    all_goals omega
  rw [e1, e2] at h2
  unfold ev_in
  omega
theorem gb_in' {b : Int} {τ : ev_M} (h : MI b τ) (hs : m_takers τ ≠ 0) (hb : b ≤ 900000000) : ev_in (m_gb τ) := by
  have h2 := h.s2
  obtain ⟨t0, t1, t3, -⟩ := takers_f h2.1 hs
  have a9 := h.gtk.h9 (d := m_talk τ) (by omega) (by omega)
  have a10 := h.gtk.h10 (d := m_talk τ) (by omega) (by omega)
  unfold m_gb
  split
  · unfold ev_in; omega
  · exact h.gtk.in (by omega) (by omega)
theorem MI.gives {b : Int} {τ : ev_M} (h : MI b τ) (hb : b ≤ 900000000) : MI (b + 84) (p_gives τ).2 := by
  by_cases hs : m_takers τ = 0
  · unfold p_gives; rw [if_pos hs]; exact h.mono (by omega)
  · have h2 := h.s2
    have hn := h.nat2
    obtain ⟨-, -, -, t4⟩ := takers_f h2.1 hs
    have h3 := (gvb_inv (set := m_takers τ) (h.g2 hs) (gb_in' h hs hb) hn (fun i hi hst => by rw [g2_16 h hs (by omega) (by omega)]; exact t4 i (by omega) hst) _ (Nat.le_refl _)).1
    have h4 := h3.mono (show b + 77 + (((τ 2).toNat : Nat) : Int) ≤ b + 84 - 1 by omega)
    have h5 := h4.sum (n := 571) (by decide) (by decide)
    unfold p_gives
    rw [if_neg hs]
    exact (h4.mono (by omega)).usum (by decide) (by decide) (by unfold m_g3; omega) (by unfold m_g3; omega)
theorem gives_o {b n : Int} {τ : ev_M} (h : MI b τ) (hb : b ≤ 900000000) (hn : n < 300) (h7 : n ≠ 7) : (p_gives τ).2 n = τ n := by
  by_cases hs : m_takers τ = 0
  · unfold p_gives; rw [if_pos hs]
  · have h2 := h.s2
    have hnn := h.nat2
    obtain ⟨-, -, -, t4⟩ := takers_f h2.1 hs
    have h3 := (gvb_inv (set := m_takers τ) (h.g2 hs) (gb_in' h hs hb) hnn (fun i hi hst => by rw [g2_16 h hs (by omega) (by omega)]; exact t4 i (by omega) hst) _ (Nat.le_refl _)).2.2 n hn
    unfold p_gives
    rw [if_neg hs]
    show ev_up (m_g3 τ) 571 (m_g3 τ 571 + 1) n = _
    rw [ev_up_ne (by omega)]
    unfold m_g3
    rw [h3, g2_o h hs hn h7]
theorem s_X5_gives {b : Int} {σ : ev_M} (hM : MI b σ) (hb : b ≤ 900000000) : Ev jX5_gives layM 0 [some (rv 0), none, none, none, none] [] σ (fun r σ' => (r, σ') = p_gives σ) := by
  have h2 := hM.s2
  have hn := hM.nat2
  have hG := hM.gtk
  have e6 : m_gtk σ 6 = σ 6 := m_ticks_o hM (by decide) (by decide) _
  have g6 := hM.s6
  have hsl := m_slow_rng (set := m_takers σ) hM
  by_cases hs : m_takers σ = 0
  · skip
    refine Ev.aload_n dX5_gives_0 rfl ?_
    refine Ev.Vi0 (I' := jX5_takers) ml_X5_157 dX5_gives_1 cyX5_takers lm_0 rfl (by decide) ⟨by decide, by decide⟩ (by simp) rfl rfl (s_X5_takers hM) (fun r σ' hr1 hq => ?_)
    obtain ⟨rfl, hq⟩ := hq
    replace hq := hq.symm
    subst hq
    refine Ev.istore1 rfl dX5_gives_4 ?_
    refine Ev.iload_n dX5_gives_5 rfl ?_
    refine Ev.if_ne (tgt := 12) dX5_gives_6 rfl (fun c6 => ?_) (fun c6 => ?_)
    · skip
      exact absurd hs c6
    · skip
      refine Ev.bipush dX5_gives_9 ⟨by decide, by decide⟩ (by decide) ?_
      refine Ev.int rfl dX5_gives_11 ?_
      unfold p_gives
      rw [if_pos hs]
  · obtain ⟨t0, t1, t3, t4⟩ := takers_f h2.1 hs
    have hbb := gb_in' hM hs hb
    have inv := gvb_inv (set := m_takers σ) (hM.g2 hs) hbb hn (fun i hi hst => by rw [g2_16 hM hs (by omega) (by omega)]; exact t4 i (by omega) hst)
    have h9 := hG.h9 (d := m_talk σ) (by omega) (by omega)
    have h10 := hG.h10 (d := m_talk σ) (by omega) (by omega)
    have h15 := hM.h15 (d := m_talk σ) (by omega) (by omega)
    have h15' := hG.h15 (d := m_talk σ) (by omega) (by omega)
    have loop : ∀ (j k : Nat) (ρ : ev_M), (k : Int) + j = σ 2 → ρ = it (m_gvb (m_takers σ) (m_gb σ)) (m_g2 σ) k → Ev jX5_gives layM 78 [some (rv 0), some (iv (m_takers σ)), some (iv (m_talk σ)), some (iv (m_gb σ)), some (iv (k : Int))] [] ρ (fun r σ' => (r, σ') = p_gives σ) := by
      intro j
      induction j with
      | zero =>
        intro k ρ hk hρ
        obtain ⟨i1, i2, i3⟩ := inv k (by omega)
        rw [← hρ] at i1 i2 i3
        have e2 : ρ 2 = σ 2 := by rw [i3 2 (by decide), g2_o hM hs (by decide) (by decide)]
        have a571 := i1.sum (n := 571) (by decide) (by decide)
        refine Ev.iload dX5_gives_78 rfl ?_
        refine Ev.aload_n dX5_gives_80 rfl ?_
        refine Ev.geti (2) dX5_gives_81 fl_X5_44 lm_0 (by decide) rfl rfl ?_
        refine Ev.icmp_ge (tgt := 154) dX5_gives_84 rfl (fun c84 => ?_) (fun c84 => ?_)
        · skip
          refine Ev.aload_n dX5_gives_154 rfl ?_
          refine Ev.getr (570) dX5_gives_155 fl_X5_19 lm_0 (by decide) rfl rfl ?_
          refine Ev.iconst dX5_gives_158 ⟨by decide, by decide⟩ ?_
          refine Ev.dup2 dX5_gives_159 ?_
          refine Ev.ialdn (571) dX5_gives_160 lm_570 (Or.inl rfl) (by decide) (by decide) rfl ?_
          refine Ev.iconst dX5_gives_161 ⟨by decide, by decide⟩ ?_
          refine Ev.iadd dX5_gives_162 (by unfold ev_in; omega) ?_
          refine Ev.iastn (571) dX5_gives_163 lm_570 (by decide) (by decide) rfl ?_
          refine Ev.iload_n dX5_gives_164 rfl ?_
          refine Ev.int rfl dX5_gives_165 ?_
          unfold p_gives
          rw [if_neg hs]
          unfold m_g3
          rw [show (σ 2).toNat = k by omega, ← hρ]
        · skip
          exact absurd c84 (by omega)
      | succ j ih =>
        intro k ρ hk hρ
        obtain ⟨i1, i2, i3⟩ := inv k (by omega)
        rw [← hρ] at i1 i2 i3
        have e2 : ρ 2 = σ 2 := by rw [i3 2 (by decide), g2_o hM hs (by decide) (by decide)]
        have a572 := i1.sum (n := 572) (by decide) (by decide)
        have a16 := i1.h16 (d := (k : Int)) (by omega) (by omega)
        have e16 := i2 (k : Int) (by omega) (by omega)
        rw [g2_16 hM hs (by omega) (by omega)] at e16
        have n12 := t4 k (by omega)
        refine Ev.iload dX5_gives_78 rfl ?_
        refine Ev.aload_n dX5_gives_80 rfl ?_
        refine Ev.geti (2) dX5_gives_81 fl_X5_44 lm_0 (by decide) rfl rfl ?_
        refine Ev.icmp_ge (tgt := 154) dX5_gives_84 rfl (fun c84 => ?_) (fun c84 => ?_)
        · skip
          exact absurd c84 (by omega)
        · skip
          refine Ev.iload_n dX5_gives_87 rfl ?_
          refine Ev.iload dX5_gives_88 rfl ?_
          refine Ev.ishr dX5_gives_90 ?_
          refine Ev.iconst dX5_gives_91 ⟨by decide, by decide⟩ ?_
          refine Ev.iand dX5_gives_92 ?_
          refine Ev.iconst dX5_gives_93 ⟨by decide, by decide⟩ ?_
          refine Ev.icmp_ne (tgt := 148) dX5_gives_94 rfl (fun c94 => ?_) (fun c94 => ?_)
          · skip
            refine Ev.iinc4 dX5_gives_148 (by unfold ev_in; omega) ?_
            refine Ev.goto (tgt := 78) dX5_gives_151 rfl ?_
            refine ih (k + 1) _ (by omega) ?_
            rw [show it (m_gvb (m_takers σ) (m_gb σ)) (m_g2 σ) (k + 1) = m_gvb (m_takers σ) (m_gb σ) (k : Int) (it (m_gvb (m_takers σ) (m_gb σ)) (m_g2 σ) k) from rfl, ← hρ]
            unfold m_gvb
            first | rw [if_pos (by omega)] | rw [if_neg (by omega)]
          · skip
            have n12 := n12 c94
            refine Ev.aload_n dX5_gives_97 rfl ?_
            refine Ev.getr (420) dX5_gives_98 fl_X5_16 lm_0 (by decide) rfl rfl ?_
            refine Ev.bipush dX5_gives_101 ⟨by decide, by decide⟩ (by decide) ?_
            refine Ev.iload dX5_gives_103 rfl ?_
            refine Ev.imul dX5_gives_105 (by unfold ev_in; omega) ?_
            refine Ev.bipush dX5_gives_106 ⟨by decide, by decide⟩ (by decide) ?_
            refine Ev.iadd dX5_gives_108 (by unfold ev_in; omega) ?_
            refine Ev.aload_n dX5_gives_109 rfl ?_
            refine Ev.iload dX5_gives_110 rfl ?_
            refine Ev.bipush dX5_gives_112 ⟨by decide, by decide⟩ (by decide) ?_
            refine Ev.Vi2 (I' := jX5_of) ml_X5_100 dX5_gives_114 cyX5_of lm_0 rfl (by decide) ⟨by decide, by decide⟩ (by simp) rfl rfl (s_X5_of (by omega) (by omega) (by decide) (by decide)) (fun r σ' hr114 hq => ?_)
            obtain ⟨rfl, hq⟩ := hq
            replace hq := hq.symm
            subst hq
            refine Ev.iadd dX5_gives_117 (by unfold ev_in; omega) ?_
            refine Ev.iload_n dX5_gives_118 rfl ?_
            refine Ev.iast dX5_gives_119 lm_420 (by omega) (by omega) ?_
            refine Ev.aload_n dX5_gives_120 rfl ?_
            refine Ev.iload dX5_gives_121 rfl ?_
            refine Ev.bipush dX5_gives_123 ⟨by decide, by decide⟩ (by decide) ?_
            refine Ev.aload_n dX5_gives_125 rfl ?_
            refine Ev.iload dX5_gives_126 rfl ?_
            refine Ev.bipush dX5_gives_128 ⟨by decide, by decide⟩ (by decide) ?_
            refine Ev.Vi2 (I' := jX5_of) ml_X5_100 dX5_gives_130 cyX5_of lm_0 rfl (by decide) ⟨by decide, by decide⟩ (by simp) rfl rfl (s_X5_of (by omega) (by omega) (by decide) (by decide)) (fun r σ' hr130 hq => ?_)
            obtain ⟨rfl, hq⟩ := hq
            replace hq := hq.symm
            subst hq
            try simp (disch := omega) only [ev_up_ne, ev_up_eqs]
            refine Ev.iconst dX5_gives_133 ⟨by decide, by decide⟩ ?_
            refine Ev.iadd dX5_gives_134 (by unfold ev_in; omega) ?_
            refine Ev.Vv3 (I' := jX5_puts) ml_X5_47 dX5_gives_135 cyX5_puts lm_0 rfl (by decide) ⟨by decide, by decide⟩ (by simp) rfl rfl (s_X5_puts (by omega) (by omega) (by decide) (by decide)) (fun σ' hq => ?_)
            subst hq
            refine Ev.aload_n dX5_gives_138 rfl ?_
            refine Ev.getr (570) dX5_gives_139 fl_X5_19 lm_0 (by decide) rfl rfl ?_
            refine Ev.iconst dX5_gives_142 ⟨by decide, by decide⟩ ?_
            refine Ev.dup2 dX5_gives_143 ?_
            refine Ev.ialdn (572) dX5_gives_144 lm_570 (Or.inl rfl) (by decide) (by decide) rfl ?_
            try simp (disch := omega) only [ev_up_ne, ev_up_eqs]
            refine Ev.iconst dX5_gives_145 ⟨by decide, by decide⟩ ?_
            refine Ev.iadd dX5_gives_146 (by unfold ev_in; omega) ?_
            refine Ev.iastn (572) dX5_gives_147 lm_570 (by decide) (by decide) rfl ?_
            refine Ev.iinc4 dX5_gives_148 (by unfold ev_in; omega) ?_
            refine Ev.goto (tgt := 78) dX5_gives_151 rfl ?_
            refine ih (k + 1) _ (by omega) ?_
            rw [show it (m_gvb (m_takers σ) (m_gb σ)) (m_g2 σ) (k + 1) = m_gvb (m_takers σ) (m_gb σ) (k : Int) (it (m_gvb (m_takers σ) (m_gb σ)) (m_g2 σ) k) from rfl, ← hρ]
            unfold m_gvb
            first | rw [if_pos (by omega)] | rw [if_neg (by omega)]
    refine Ev.aload_n dX5_gives_0 rfl ?_
    refine Ev.Vi0 (I' := jX5_takers) ml_X5_157 dX5_gives_1 cyX5_takers lm_0 rfl (by decide) ⟨by decide, by decide⟩ (by simp) rfl rfl (s_X5_takers hM) (fun r σ' hr1 hq => ?_)
    obtain ⟨rfl, hq⟩ := hq
    replace hq := hq.symm
    subst hq
    refine Ev.istore1 rfl dX5_gives_4 ?_
    refine Ev.iload_n dX5_gives_5 rfl ?_
    refine Ev.if_ne (tgt := 12) dX5_gives_6 rfl (fun c6 => ?_) (fun c6 => ?_)
    · skip
      refine Ev.aload_n dX5_gives_12 rfl ?_
      refine Ev.Vi0 (I' := jX5_talker) ml_X5_117 dX5_gives_13 cyX5_talker lm_0 rfl (by decide) ⟨by decide, by decide⟩ (by simp) rfl rfl (s_X5_talker (by omega) (by omega)) (fun r σ' hr13 hq => ?_)
      obtain ⟨rfl, hq⟩ := hq
      replace hq := hq.symm
      subst hq
      refine Ev.istore2 rfl dX5_gives_16 ?_
      refine Ev.aload_n dX5_gives_17 rfl ?_
      refine Ev.aload_n dX5_gives_18 rfl ?_
      refine Ev.iload_n dX5_gives_19 rfl ?_
      refine Ev.Vi1 (I' := jX5_slowest) ml_X5_129 dX5_gives_20 cyX5_slowest lm_0 rfl (by decide) ⟨by decide, by decide⟩ (by simp) rfl rfl (s_X5_slowest (by omega) (by omega)) (fun r σ' hr20 hq => ?_)
      obtain ⟨rfl, hq⟩ := hq
      replace hq := hq.symm
      subst hq
      refine Ev.iconst dX5_gives_23 ⟨by decide, by decide⟩ ?_
      refine Ev.iadd dX5_gives_24 (by unfold ev_in; omega) ?_
      refine Ev.Vv1 (I' := jX5_ticks) ml_X5_107 dX5_gives_25 cyX5_ticks lm_0 rfl (by decide) ⟨by decide, by decide⟩ (by simp) rfl rfl (s_X5_ticks (by omega) (by omega) hM (by omega)) (fun σ' hq => ?_)
      subst hq
      rw [show m_ticks σ (m_slow (m_takers σ) σ + 2).toNat = m_gtk σ from rfl]
      refine Ev.aload_n dX5_gives_28 rfl ?_
      refine Ev.geti (6) dX5_gives_29 fl_X5_54 lm_0 (by decide) rfl rfl ?_
      refine Ev.iconst dX5_gives_32 ⟨by decide, by decide⟩ ?_
      refine Ev.icmp_ne (tgt := 66) dX5_gives_33 rfl (fun c33 => ?_) (fun c33 => ?_)
      · skip
        refine Ev.aload_n dX5_gives_66 rfl ?_
        refine Ev.iload_n dX5_gives_67 rfl ?_
        refine Ev.iconst dX5_gives_68 ⟨by decide, by decide⟩ ?_
        refine Ev.bipush dX5_gives_69 ⟨by decide, by decide⟩ (by decide) ?_
        refine Ev.Vi3 (I' := jX5_firstOf) ml_X5_160 dX5_gives_71 cyX5_firstOf lm_0 rfl (by decide) ⟨by decide, by decide⟩ (by simp) rfl rfl (s_X5_firstOf (by omega) (by omega) (Or.inl rfl) (Or.inl rfl) (m_ticks_15 hM (by omega) (by omega) (by have := t3 (by omega); omega) _) h15'.2) (fun r σ' hr71 hq => ?_)
        obtain ⟨rfl, rfl⟩ := hq
        rw [show m_gtk σ (420 + (24 * m_talk σ + 0)) = m_gb σ by unfold m_gb; rw [if_neg (by omega)]]
        refine Ev.istore3 rfl dX5_gives_74 ?_
        refine Ev.iconst dX5_gives_75 ⟨by decide, by decide⟩ ?_
        refine Ev.istore4 dX5_gives_76 ?_
        exact loop (σ 2).toNat 0 _ (by omega) (by show _ = m_g2 σ; unfold m_g2; first | rw [if_pos (by omega)] | rw [if_neg (by omega)])
      · skip
        refine Ev.aload_n dX5_gives_36 rfl ?_
        refine Ev.iload_n dX5_gives_37 rfl ?_
        refine Ev.bipush dX5_gives_38 ⟨by decide, by decide⟩ (by decide) ?_
        refine Ev.Vi2 (I' := jX5_of) ml_X5_100 dX5_gives_40 cyX5_of lm_0 rfl (by decide) ⟨by decide, by decide⟩ (by simp) rfl rfl (s_X5_of (by omega) (by omega) (by decide) (by decide)) (fun r σ' hr40 hq => ?_)
        obtain ⟨rfl, hq⟩ := hq
        replace hq := hq.symm
        subst hq
        refine Ev.bipush dX5_gives_43 ⟨by decide, by decide⟩ (by decide) ?_
        refine Ev.aload_n dX5_gives_45 rfl ?_
        refine Ev.iload_n dX5_gives_46 rfl ?_
        refine Ev.bipush dX5_gives_47 ⟨by decide, by decide⟩ (by decide) ?_
        refine Ev.Vi2 (I' := jX5_of) ml_X5_100 dX5_gives_49 cyX5_of lm_0 rfl (by decide) ⟨by decide, by decide⟩ (by simp) rfl rfl (s_X5_of (by omega) (by omega) (by decide) (by decide)) (fun r σ' hr49 hq => ?_)
        obtain ⟨rfl, hq⟩ := hq
        replace hq := hq.symm
        subst hq
        refine Ev.imul dX5_gives_52 (by unfold ev_in; omega) ?_
        refine Ev.iadd dX5_gives_53 (by unfold ev_in; omega) ?_
        rw [show m_gtk σ (300 + (18 * m_talk σ + 9)) + 64 * m_gtk σ (300 + (18 * m_talk σ + 10)) = m_gb σ by unfold m_gb; rw [if_pos (by omega)]]
        refine Ev.istore3 rfl dX5_gives_54 ?_
        refine Ev.aload_n dX5_gives_55 rfl ?_
        refine Ev.iload_n dX5_gives_56 rfl ?_
        refine Ev.bipush dX5_gives_57 ⟨by decide, by decide⟩ (by decide) ?_
        refine Ev.iconst dX5_gives_59 ⟨by decide, by decide⟩ ?_
        refine Ev.Vv3 (I' := jX5_puts) ml_X5_47 dX5_gives_60 cyX5_puts lm_0 rfl (by decide) ⟨by decide, by decide⟩ (by simp) rfl rfl (s_X5_puts (by omega) (by omega) (by decide) (by decide)) (fun σ' hq => ?_)
        subst hq
        refine Ev.goto (tgt := 75) dX5_gives_63 rfl ?_
        refine Ev.iconst dX5_gives_75 ⟨by decide, by decide⟩ ?_
        refine Ev.istore4 dX5_gives_76 ?_
        exact loop (σ 2).toNat 0 _ (by omega) (by show _ = m_g2 σ; unfold m_g2; first | rw [if_pos (by omega)] | rw [if_neg (by omega)])
    · skip
      exact absurd c6 hs
theorem s_X5_give {b : Int} {σ : ev_M} (hM : MI b σ) (hb : b ≤ 900000000) : Ev jX5_give layM 0 [some (rv 0)] [] σ (fun r σ' => (r, σ') = p_gives σ) := by
  refine Ev.aload_n dX5_give_0 rfl ?_
  refine Ev.Vi0 (I' := jX5_gives) ml_X5_164 dX5_give_1 cyX5_gives lm_0 rfl (by decide) ⟨by decide, by decide⟩ (by simp) rfl rfl (s_X5_gives hM hb) (fun r σ' hr1 hq => ?_)
  skip
  refine Ev.int rfl dX5_give_4 ?_
  exact hq
theorem obey_o {b c tl tt n : Int} {τ : ev_M} (h : MI b τ) (hn : n < 300) (h5 : n ≠ 5 ∧ n ≠ 6) : m_obey c tl tt τ n = τ n := by
  have hnn := h.nat2
  have h2 := h.s2
  have ht := m_talk_rng h2.1
  have hA : ∀ a how : Int, ∀ d : Int, 0 ≤ d → d < 6 → ∀ σ : ev_M, m_addr a how d σ n = σ n := by
    intro a how d d0 d1 σ
    unfold m_addr
    repeat' split
    all_goals first | rfl | simp (disch := omega) only [ev_up_ne]
  have hP : ∀ d : Int, 0 ≤ d → d < 6 → ∀ σ : ev_M, m_prep c d σ n = σ n := by
    intro d d0 d1 σ
    unfold m_prep
    by_cases hq : ev_and (ev_shr (σ 9) d) 1 = 1
    · rw [if_pos hq, ev_up_ne (by omega), ev_up_ne (by omega)]
    · rw [if_neg hq]
  unfold m_obey
  split
  · rw [m_comes_o (it_MI1 (fun i b τ hi h => h.tl (by omega) (by omega)) h _ hnn) hn]
    exact it_at' _ (fun i σ hi => m_tl_o (by omega) (by omega) hn)
  · split
    · unfold m_pass
      split
      · rw [ev_up_ne (by omega), ev_up_ne (by omega), ev_up_ne (by omega)]
      · rfl
    · split
      · exact it_all_o hnn (by decide) (by decide) (Or.inl hn)
      · split
        · exact it_all_o hnn (by decide) (by decide) (Or.inl hn)
        · split
          · rw [ev_up_ne h5.2]
          · split
            · exact it_all_o hnn (by decide) (by decide) (Or.inl hn)
            · split
              · exact it_at' _ (fun i σ hi => hA _ _ _ (by omega) (by omega) σ)
              · split
                · rw [it_at' _ (fun i σ hi => hA _ _ _ (by omega) (by omega) σ)]
                  exact it_all_o hnn (by decide) (by decide) (Or.inl hn)
                · split
                  · split
                    · exact it_at' _ (fun i σ hi => hP _ (by omega) (by omega) σ)
                    · split
                      · exact it_at' _ (fun i σ hi => m_sec_2 (by omega) hn)
                      · rfl
                  · rfl
theorem sends_o {b c n : Int} {τ : ev_M} (h : MI b τ) (hb : b ≤ 800000000) (hc0 : 0 ≤ c) (hc1 : c ≤ 127) (hn : n < 300) (hx : n ≠ 5 ∧ n ≠ 6 ∧ n ≠ 7 ∧ n ≠ 8 ∧ n ≠ 9 ∧ n ≠ 11) : m_sends c τ n = τ n := by
  have hMp := h.pre (c := c) (by omega) (by unfold ev_in; omega)
  have hMt := h.tkd (c := c) (by omega) (by unfold ev_in; omega)
  have hnn := hMt.nat2
  unfold m_sends m_end
  rw [ev_up_ne (by omega), ev_up_ne (by omega), obey_o (hMt.itall17 _ hnn) hn (by omega), it_all_o hnn (by decide) (by decide) (Or.inl hn)]
  unfold m_tkd
  rw [m_ticks_o hMp hn (by omega)]
  unfold m_pre
  rw [ev_up_ne (by omega), m_logs_o (by omega) (by omega)]
def m_sendsTo (d base : Int) (τ : ev_M) : ev_M := if m_sends (base + τ (300 + (18 * d + 1))) τ (300 + (18 * d + 2)) < 31 then m_sends (96 + m_sends (base + τ (300 + (18 * d + 1))) τ (300 + (18 * d + 2))) (m_sends (base + τ (300 + (18 * d + 1))) τ) else m_sends (base + τ (300 + (18 * d + 1))) τ
theorem s_X5_sendsTo {b d base : Int} {σ : ev_M} (hM : MI b σ) (hb : b ≤ 700000000) (hd0 : 0 ≤ d) (hd : d < 6) (hb0 : 0 ≤ base) (hb1 : base ≤ 64) : Ev jX5_sendsTo layM 0 [some (rv 0), some (iv d), some (iv base)] [] σ (fun _ σ' => σ' = m_sendsTo d base σ) := by
  have a1 := hM.h1 hd0 hd
  have hM1 := hM.sends' (c := base + σ (300 + (18 * d + 1))) (by omega) (by omega) (by omega)
  have a2 := hM1.h2 hd0 hd
  refine Ev.aload_n dX5_sendsTo_0 rfl ?_
  refine Ev.iload_n dX5_sendsTo_1 rfl ?_
  refine Ev.aload_n dX5_sendsTo_2 rfl ?_
  refine Ev.iload_n dX5_sendsTo_3 rfl ?_
  refine Ev.iconst dX5_sendsTo_4 ⟨by decide, by decide⟩ ?_
  refine Ev.Vi2 (I' := jX5_of) ml_X5_100 dX5_sendsTo_5 cyX5_of lm_0 rfl (by decide) ⟨by decide, by decide⟩ (by simp) rfl rfl (s_X5_of hd0 hd (by decide) (by decide)) (fun r σ' hr5 hq => ?_)
  obtain ⟨rfl, hq⟩ := hq
  replace hq := hq.symm
  subst hq
  refine Ev.iadd dX5_sendsTo_8 (by unfold ev_in; omega) ?_
  refine Ev.Vv1 (I' := jX5_sends) ml_X5_154 dX5_sendsTo_9 cyX5_sends lm_0 rfl (by decide) ⟨by decide, by decide⟩ (by simp) rfl rfl (s_X5_sends hM (by omega) (by omega) (by omega)) (fun σ' hq => ?_)
  subst hq
  refine Ev.aload_n dX5_sendsTo_12 rfl ?_
  refine Ev.iload_n dX5_sendsTo_13 rfl ?_
  refine Ev.iconst dX5_sendsTo_14 ⟨by decide, by decide⟩ ?_
  refine Ev.Vi2 (I' := jX5_of) ml_X5_100 dX5_sendsTo_15 cyX5_of lm_0 rfl (by decide) ⟨by decide, by decide⟩ (by simp) rfl rfl (s_X5_of hd0 hd (by decide) (by decide)) (fun r σ' hr15 hq => ?_)
  obtain ⟨rfl, hq⟩ := hq
  replace hq := hq.symm
  subst hq
  refine Ev.bipush dX5_sendsTo_18 ⟨by decide, by decide⟩ (by decide) ?_
  refine Ev.icmp_ge (tgt := 36) dX5_sendsTo_20 rfl (fun c20 => ?_) (fun c20 => ?_)
  · skip
    refine Ev.vret dX5_sendsTo_36 rfl ?_
    unfold m_sendsTo
    first | rw [if_pos (by omega)] | rw [if_neg (by omega)]
  · skip
    refine Ev.aload_n dX5_sendsTo_23 rfl ?_
    refine Ev.bipush dX5_sendsTo_24 ⟨by decide, by decide⟩ (by decide) ?_
    refine Ev.aload_n dX5_sendsTo_26 rfl ?_
    refine Ev.iload_n dX5_sendsTo_27 rfl ?_
    refine Ev.iconst dX5_sendsTo_28 ⟨by decide, by decide⟩ ?_
    refine Ev.Vi2 (I' := jX5_of) ml_X5_100 dX5_sendsTo_29 cyX5_of lm_0 rfl (by decide) ⟨by decide, by decide⟩ (by simp) rfl rfl (s_X5_of hd0 hd (by decide) (by decide)) (fun r σ' hr29 hq => ?_)
    obtain ⟨rfl, hq⟩ := hq
    replace hq := hq.symm
    subst hq
    refine Ev.iadd dX5_sendsTo_32 (by unfold ev_in; omega) ?_
    refine Ev.Vv1 (I' := jX5_sends) ml_X5_154 dX5_sendsTo_33 cyX5_sends lm_0 rfl (by decide) ⟨by decide, by decide⟩ (by simp) rfl rfl (s_X5_sends hM1 (by omega) (by omega) (by omega)) (fun σ' hq => ?_)
    subst hq
    refine Ev.vret dX5_sendsTo_36 rfl ?_
    unfold m_sendsTo
    first | rw [if_pos (by omega)] | rw [if_neg (by omega)]
theorem MI.sendsTo {b d base : Int} {τ : ev_M} (h : MI b τ) (hb : b ≤ 700000000) (hd0 : 0 ≤ d) (hd : d < 6) (hb0 : 0 ≤ base) (hb1 : base ≤ 64) : MI (b + 152) (m_sendsTo d base τ) := by
  have a1 := h.h1 hd0 hd
  have hM1 := h.sends' (c := base + τ (300 + (18 * d + 1))) (by omega) (by omega) (by omega)
  have a2 := hM1.h2 hd0 hd
  unfold m_sendsTo
  split
  · exact (hM1.sends' (by omega) (by omega) (by omega)).mono (by omega)
  · exact hM1.mono (by omega)
theorem sendsTo_o {b d base n : Int} {τ : ev_M} (h : MI b τ) (hb : b ≤ 700000000) (hd0 : 0 ≤ d) (hd : d < 6) (hb0 : 0 ≤ base) (hb1 : base ≤ 64) (hn : n < 300) (hx : n ≠ 5 ∧ n ≠ 6 ∧ n ≠ 7 ∧ n ≠ 8 ∧ n ≠ 9 ∧ n ≠ 11) : m_sendsTo d base τ n = τ n := by
  have a1 := h.h1 hd0 hd
  have hM1 := h.sends' (c := base + τ (300 + (18 * d + 1))) (by omega) (by omega) (by omega)
  have a2 := hM1.h2 hd0 hd
  unfold m_sendsTo
  split
  · rw [sends_o hM1 (by omega) (by omega) (by omega) hn hx, sends_o h (by omega) (by omega) (by omega) hn hx]
  · exact sends_o h (by omega) (by omega) (by omega) hn hx
def plr (τ : ev_M) : Nat → Int × ev_M
  | 0 => (-4, τ)
  | k + 1 => if 0 ≤ (plr τ k).1 then plr τ k else if (k : Int) = (plr τ k).2 5 then plr τ k else (if 64 ≤ (p_gives (m_sendsTo (k : Int) 64 (plr τ k).2)).1 then (k : Int) else -4, (p_gives (m_sendsTo (k : Int) 64 (plr τ k).2)).2)
theorem plr_inv {b : Int} {τ : ev_M} (h : MI b τ) (hb : b ≤ 600000000) : ∀ k : Nat, k ≤ 6 → MI (b + 236 * (k : Int)) (plr τ k).2 ∧ (plr τ k).2 2 = τ 2
  | 0, _ => ⟨by rw [show b + 236 * ((0 : Nat) : Int) = b by simp]; exact h, rfl⟩
  | k + 1, hk => by
    obtain ⟨i1, i2⟩ := plr_inv h hb k (by omega)
    show MI _ (if 0 ≤ (plr τ k).1 then plr τ k else if (k : Int) = (plr τ k).2 5 then plr τ k else (if 64 ≤ (p_gives (m_sendsTo (k : Int) 64 (plr τ k).2)).1 then (k : Int) else -4, (p_gives (m_sendsTo (k : Int) 64 (plr τ k).2)).2)).2 ∧ (if 0 ≤ (plr τ k).1 then plr τ k else if (k : Int) = (plr τ k).2 5 then plr τ k else (if 64 ≤ (p_gives (m_sendsTo (k : Int) 64 (plr τ k).2)).1 then (k : Int) else -4, (p_gives (m_sendsTo (k : Int) 64 (plr τ k).2)).2)).2 2 = τ 2
    split
    · exact ⟨i1.mono (by omega), i2⟩
    · split
      · exact ⟨i1.mono (by omega), i2⟩
      · have s1 := i1.sendsTo (d := (k : Int)) (base := 64) (by omega) (by omega) (by omega) (by decide) (by decide)
        refine ⟨(s1.gives (by omega)).mono (by omega), ?_⟩
        show (p_gives (m_sendsTo (k : Int) 64 (plr τ k).2)).2 2 = τ 2
        rw [gives_o s1 (by omega) (by decide) (by decide), sendsTo_o i1 (by omega) (by omega) (by omega) (by decide) (by decide) (by decide) (by decide), i2]
theorem plr_stay {τ : ev_M} {k : Nat} (h : 0 ≤ (plr τ k).1) : ∀ j : Nat, plr τ (k + j) = plr τ k
  | 0 => rfl
  | j + 1 => by
    show (if 0 ≤ (plr τ (k + j)).1 then plr τ (k + j) else _) = _
    rw [plr_stay h j, if_pos h]
def m_pl1 (τ : ev_M) : ev_M := m_sends 63 (ev_up τ 574 (τ 574 + 1))
def m_pl2 (τ : ev_M) : ev_M := m_sends 24 (m_sendsTo (m_pl1 τ 5) 32 (m_pl1 τ))
def m_pl3 (τ : ev_M) : ev_M := m_sends 95 (m_sends 25 (plr (m_pl2 τ) (τ 2).toNat).2)
def p_poll (τ : ev_M) : Int × ev_M := ((plr (m_pl2 τ) (τ 2).toNat).1, ev_up (m_pl3 τ) 575 (m_pl3 τ 575 + (if (plr (m_pl2 τ) (τ 2).toNat).1 < 0 then 0 else 1)))
theorem MI.pl0 {b : Int} {τ : ev_M} (h : MI b τ) : MI (b + 1) (ev_up τ 574 (τ 574 + 1)) := by
  have := h.sum (n := 574) (by decide) (by decide)
  exact (h.mono (by omega)).usum (by decide) (by decide) (by omega) (by omega)
theorem MI.pl1 {b : Int} {τ : ev_M} (h : MI b τ) (hb : b ≤ 500000000) : MI (b + 77) (m_pl1 τ) ∧ m_pl1 τ 2 = τ 2 :=
  ⟨(h.pl0.sends' (by omega) (by decide) (by decide)).mono (by omega), by unfold m_pl1; rw [sends_o h.pl0 (by omega) (by decide) (by decide) (by decide) (by decide), ev_up_ne (by decide)]⟩
theorem MI.pl2 {b : Int} {τ : ev_M} (h : MI b τ) (hb : b ≤ 500000000) : MI (b + 305) (m_pl2 τ) ∧ m_pl2 τ 2 = τ 2 := by
  obtain ⟨h1, e1⟩ := h.pl1 hb
  have h5 := h1.s5
  have h3 := h1.sendsTo (d := m_pl1 τ 5) (base := 32) (by omega) (by omega) (by omega) (by decide) (by decide)
  refine ⟨(h3.sends' (by omega) (by decide) (by decide)).mono (by omega), ?_⟩
  unfold m_pl2
  rw [sends_o h3 (by omega) (by decide) (by decide) (by decide) (by decide), sendsTo_o h1 (by omega) (by omega) (by omega) (by decide) (by decide) (by decide) (by decide), e1]
theorem s_X5_poll {b : Int} {σ : ev_M} (hM : MI b σ) (hb : b ≤ 500000000) : Ev jX5_poll layM 0 [some (rv 0), none, none] [] σ (fun r σ' => (r, σ') = p_poll σ) := by
  have h2 := hM.s2
  have hnn := hM.nat2
  have a574 := hM.sum (n := 574) (by decide) (by decide)
  obtain ⟨h1, e1⟩ := hM.pl1 hb
  have a5 := h1.s5
  have h1' := h1.sendsTo (d := m_pl1 σ 5) (base := 32) (by omega) (by omega) (by omega) (by decide) (by decide)
  obtain ⟨h3, e3⟩ := hM.pl2 hb
  have tail : ∀ (f : Int) (ρ : ev_M) (v2 : Option ev_V), (f, ρ) = plr (m_pl2 σ) (σ 2).toNat → Ev jX5_poll layM 86 [some (rv 0), some (iv f), v2] [] ρ (fun r σ' => (r, σ') = p_poll σ) := by
    intro f ρ v2 hf
    have hMr := (plr_inv h3 (by omega) (σ 2).toNat hnn).1
    rw [← hf] at hMr
    have hMr : MI (b + 2000) ρ := MI.mono hMr (by omega)
    have hM4 := hMr.sends' (c := 25) (by omega) (by decide) (by decide)
    have hM5 := hM4.sends' (c := 95) (by omega) (by decide) (by decide)
    have a575 := hM5.sum (n := 575) (by decide) (by decide)
    refine Ev.aload_n dX5_poll_86 rfl ?_
    refine Ev.bipush dX5_poll_87 ⟨by decide, by decide⟩ (by decide) ?_
    refine Ev.Vv1 (I' := jX5_sends) ml_X5_154 dX5_poll_89 cyX5_sends lm_0 rfl (by decide) ⟨by decide, by decide⟩ (by simp) rfl rfl (s_X5_sends hMr (by omega) (by decide) (by decide)) (fun σ' hq => ?_)
    subst hq
    refine Ev.aload_n dX5_poll_92 rfl ?_
    refine Ev.bipush dX5_poll_93 ⟨by decide, by decide⟩ (by decide) ?_
    refine Ev.Vv1 (I' := jX5_sends) ml_X5_154 dX5_poll_95 cyX5_sends lm_0 rfl (by decide) ⟨by decide, by decide⟩ (by simp) rfl rfl (s_X5_sends hM4 (by omega) (by decide) (by decide)) (fun σ' hq => ?_)
    subst hq
    refine Ev.aload_n dX5_poll_98 rfl ?_
    refine Ev.getr (570) dX5_poll_99 fl_X5_19 lm_0 (by decide) rfl rfl ?_
    refine Ev.iconst dX5_poll_102 ⟨by decide, by decide⟩ ?_
    refine Ev.dup2 dX5_poll_103 ?_
    refine Ev.ialdn (575) dX5_poll_104 lm_570 (Or.inl rfl) (by decide) (by decide) rfl ?_
    refine Ev.iload_n dX5_poll_105 rfl ?_
    refine Ev.if_ge (tgt := 113) dX5_poll_106 rfl (fun c106 => ?_) (fun c106 => ?_)
    · skip
      refine Ev.iconst dX5_poll_113 ⟨by decide, by decide⟩ ?_
      refine Ev.iadd dX5_poll_114 (by unfold ev_in; omega) ?_
      refine Ev.iastn (575) dX5_poll_115 lm_570 (by decide) (by decide) rfl ?_
      refine Ev.iload_n dX5_poll_116 rfl ?_
      refine Ev.int rfl dX5_poll_117 ?_
      unfold p_poll m_pl3
      rw [← hf]
      first | rw [if_pos (by omega)] | rw [if_neg (by omega)]
    · skip
      refine Ev.iconst dX5_poll_109 ⟨by decide, by decide⟩ ?_
      refine Ev.goto (tgt := 114) dX5_poll_110 rfl ?_
      refine Ev.iadd dX5_poll_114 (by unfold ev_in; omega) ?_
      refine Ev.iastn (575) dX5_poll_115 lm_570 (by decide) (by decide) rfl ?_
      refine Ev.iload_n dX5_poll_116 rfl ?_
      refine Ev.int rfl dX5_poll_117 ?_
      unfold p_poll m_pl3
      rw [← hf]
      first | rw [if_pos (by omega)] | rw [if_neg (by omega)]
  have loop : ∀ (j k : Nat) (f : Int) (ρ : ev_M), (k : Int) + j = σ 2 → (f, ρ) = plr (m_pl2 σ) k → Ev jX5_poll layM 37 [some (rv 0), some (iv f), some (iv (k : Int))] [] ρ (fun r σ' => (r, σ') = p_poll σ) := by
    intro j
    induction j with
    | zero =>
      intro k f ρ hk hf
      obtain ⟨i1, i2⟩ := plr_inv h3 (by omega) k (by omega)
      rw [← hf] at i1 i2
      have i2 : ρ 2 = m_pl2 σ 2 := i2
      refine Ev.iload_n dX5_poll_37 rfl ?_
      refine Ev.aload_n dX5_poll_38 rfl ?_
      refine Ev.geti (2) dX5_poll_39 fl_X5_44 lm_0 (by decide) rfl rfl ?_
      refine Ev.icmp_ge (tgt := 86) dX5_poll_42 rfl (fun c42 => ?_) (fun c42 => ?_)
      · skip
        exact tail f ρ _ (by rw [hf, show (σ 2).toNat = k by omega])
      · skip
        exact absurd c42 (by omega)
    | succ j ih =>
      intro k f ρ hk hf
      obtain ⟨i1, i2⟩ := plr_inv h3 (by omega) k (by omega)
      have st := plr_stay (τ := m_pl2 σ) (k := k)
      have un : plr (m_pl2 σ) (k + 1) = (if 0 ≤ (plr (m_pl2 σ) k).1 then plr (m_pl2 σ) k else if (k : Int) = (plr (m_pl2 σ) k).2 5 then plr (m_pl2 σ) k else (if 64 ≤ (p_gives (m_sendsTo (k : Int) 64 (plr (m_pl2 σ) k).2)).1 then (k : Int) else -4, (p_gives (m_sendsTo (k : Int) 64 (plr (m_pl2 σ) k).2)).2)) := rfl
      rw [← hf] at i1 i2 st un
      have i1 : MI (b + 305 + 236 * (k : Int)) ρ := i1
      have i2 : ρ 2 = m_pl2 σ 2 := i2
      have i5 := i1.s5
      have i6 := i1.sendsTo (d := (k : Int)) (base := 64) (by omega) (by omega) (by omega) (by decide) (by decide)
      dsimp only at st un
      refine Ev.iload_n dX5_poll_37 rfl ?_
      refine Ev.aload_n dX5_poll_38 rfl ?_
      refine Ev.geti (2) dX5_poll_39 fl_X5_44 lm_0 (by decide) rfl rfl ?_
      refine Ev.icmp_ge (tgt := 86) dX5_poll_42 rfl (fun c42 => ?_) (fun c42 => ?_)
      · skip
        exact absurd c42 (by omega)
      · skip
        refine Ev.iload_n dX5_poll_45 rfl ?_
        refine Ev.if_ge (tgt := 86) dX5_poll_46 rfl (fun c46 => ?_) (fun c46 => ?_)
        · skip
          exact tail f ρ _ (by rw [show (σ 2).toNat = k + (j + 1) by omega, st (by omega) (j + 1)])
        · skip
          refine Ev.iload_n dX5_poll_49 rfl ?_
          refine Ev.aload_n dX5_poll_50 rfl ?_
          refine Ev.geti (5) dX5_poll_51 fl_X5_51 lm_0 (by decide) rfl rfl ?_
          refine Ev.icmp_eq (tgt := 80) dX5_poll_54 rfl (fun c54 => ?_) (fun c54 => ?_)
          · skip
            refine Ev.iinc2 dX5_poll_80 (by unfold ev_in; omega) ?_
            refine Ev.goto (tgt := 37) dX5_poll_83 rfl ?_
            refine ih (k + 1) _ _ (by omega) ?_
            rw [un, if_neg (by omega)]
            first | rw [if_pos (by omega)] | (rw [if_neg (by omega), ← hg1, ← hg2]; first | rw [if_pos (by omega)] | rw [if_neg (by omega)])
          · skip
            refine Ev.aload_n dX5_poll_57 rfl ?_
            refine Ev.iload_n dX5_poll_58 rfl ?_
            refine Ev.bipush dX5_poll_59 ⟨by decide, by decide⟩ (by decide) ?_
            refine Ev.Vv2 (I' := jX5_sendsTo) ml_X5_167 dX5_poll_61 cyX5_sendsTo lm_0 rfl (by decide) ⟨by decide, by decide⟩ (by simp) rfl rfl (s_X5_sendsTo i1 (by omega) (by omega) (by omega) (by decide) (by decide)) (fun σ' hq => ?_)
            subst hq
            refine Ev.aload_n dX5_poll_64 rfl ?_
            refine Ev.Vi0 (I' := jX5_gives) ml_X5_164 dX5_poll_65 cyX5_gives lm_0 rfl (by decide) ⟨by decide, by decide⟩ (by simp) rfl rfl (s_X5_gives i6 (by omega)) (fun r σ' hr65 hq => ?_)
            have hg1 : r = (p_gives (m_sendsTo (k : Int) 64 ρ)).1 := congrArg Prod.fst hq
            have hg2 : σ' = (p_gives (m_sendsTo (k : Int) 64 ρ)).2 := congrArg Prod.snd hq
            clear hq
            refine Ev.bipush dX5_poll_68 ⟨by decide, by decide⟩ (by decide) ?_
            refine Ev.icmp_lt (tgt := 77) dX5_poll_70 rfl (fun c70 => ?_) (fun c70 => ?_)
            · skip
              refine Ev.bipush dX5_poll_77 ⟨by decide, by decide⟩ (by decide) ?_
              refine Ev.istore1 rfl dX5_poll_79 ?_
              refine Ev.iinc2 dX5_poll_80 (by unfold ev_in; omega) ?_
              refine Ev.goto (tgt := 37) dX5_poll_83 rfl ?_
              refine ih (k + 1) _ _ (by omega) ?_
              rw [un, if_neg (by omega)]
              first | rw [if_pos (by omega)] | (rw [if_neg (by omega), ← hg1, ← hg2]; first | rw [if_pos (by omega)] | rw [if_neg (by omega)])
            · skip
              refine Ev.iload_n dX5_poll_73 rfl ?_
              refine Ev.goto (tgt := 79) dX5_poll_74 rfl ?_
              refine Ev.istore1 rfl dX5_poll_79 ?_
              refine Ev.iinc2 dX5_poll_80 (by unfold ev_in; omega) ?_
              refine Ev.goto (tgt := 37) dX5_poll_83 rfl ?_
              refine ih (k + 1) _ _ (by omega) ?_
              rw [un, if_neg (by omega)]
              first | rw [if_pos (by omega)] | (rw [if_neg (by omega), ← hg1, ← hg2]; first | rw [if_pos (by omega)] | rw [if_neg (by omega)])
  refine Ev.aload_n dX5_poll_0 rfl ?_
  refine Ev.getr (570) dX5_poll_1 fl_X5_19 lm_0 (by decide) rfl rfl ?_
  refine Ev.iconst dX5_poll_4 ⟨by decide, by decide⟩ ?_
  refine Ev.dup2 dX5_poll_5 ?_
  refine Ev.ialdn (574) dX5_poll_6 lm_570 (Or.inl rfl) (by decide) (by decide) rfl ?_
  refine Ev.iconst dX5_poll_7 ⟨by decide, by decide⟩ ?_
  refine Ev.iadd dX5_poll_8 (by unfold ev_in; omega) ?_
  refine Ev.iastn (574) dX5_poll_9 lm_570 (by decide) (by decide) rfl ?_
  refine Ev.aload_n dX5_poll_10 rfl ?_
  refine Ev.bipush dX5_poll_11 ⟨by decide, by decide⟩ (by decide) ?_
  refine Ev.Vv1 (I' := jX5_sends) ml_X5_154 dX5_poll_13 cyX5_sends lm_0 rfl (by decide) ⟨by decide, by decide⟩ (by simp) rfl rfl (s_X5_sends hM.pl0 (by omega) (by decide) (by decide)) (fun σ' hq => ?_)
  subst hq
  rw [show m_sends 63 (ev_up σ 574 (σ 574 + 1)) = m_pl1 σ from rfl]
  refine Ev.aload_n dX5_poll_16 rfl ?_
  refine Ev.aload_n dX5_poll_17 rfl ?_
  refine Ev.geti (5) dX5_poll_18 fl_X5_51 lm_0 (by decide) rfl rfl ?_
  refine Ev.bipush dX5_poll_21 ⟨by decide, by decide⟩ (by decide) ?_
  refine Ev.Vv2 (I' := jX5_sendsTo) ml_X5_167 dX5_poll_23 cyX5_sendsTo lm_0 rfl (by decide) ⟨by decide, by decide⟩ (by simp) rfl rfl (s_X5_sendsTo h1 (by omega) (by omega) (by omega) (by decide) (by decide)) (fun σ' hq => ?_)
  subst hq
  refine Ev.aload_n dX5_poll_26 rfl ?_
  refine Ev.bipush dX5_poll_27 ⟨by decide, by decide⟩ (by decide) ?_
  refine Ev.Vv1 (I' := jX5_sends) ml_X5_154 dX5_poll_29 cyX5_sends lm_0 rfl (by decide) ⟨by decide, by decide⟩ (by simp) rfl rfl (s_X5_sends h1' (by omega) (by decide) (by decide)) (fun σ' hq => ?_)
  subst hq
  rw [show m_sends 24 (m_sendsTo (m_pl1 σ 5) 32 (m_pl1 σ)) = m_pl2 σ from rfl]
  refine Ev.bipush dX5_poll_32 ⟨by decide, by decide⟩ (by decide) ?_
  refine Ev.istore1 rfl dX5_poll_34 ?_
  refine Ev.iconst dX5_poll_35 ⟨by decide, by decide⟩ ?_
  refine Ev.istore2 rfl dX5_poll_36 ?_
  exact loop (σ 2).toNat 0 _ _ (by omega) rfl
