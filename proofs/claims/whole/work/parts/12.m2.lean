/-! the reference: its loops over devices -/
theorem s_X5_silences  {σ : ev_M}  (h2 : 0 ≤ σ 2) (h2' : σ 2 ≤ 6) : Ev jX5_silences layM 0 [some (rv 0), none] [] σ (fun _ σ' => σ' = it (m_all 5 0) σ (σ 2).toNat) := by
  have loop : ∀ (j k : Nat) (ρ : ev_M), (k : Int) + j = σ 2 → ρ = it (m_all 5 0) σ k → Ev jX5_silences layM 2 [some (rv 0), some (iv (k : Int))] [] ρ (fun _ σ' => σ' = it (m_all 5 0) σ (σ 2).toNat) := by
    intro j
    induction j with
    | zero =>
      intro k ρ hk hρ
      have e2 : ρ 2 = σ 2 := by rw [hρ]; exact it_at (fun k σ => by unfold m_all; (repeat' split) <;> (try rfl) <;> simp (disch := omega) only [ev_up_ne]) k
      refine Ev.iload_n dX5_silences_2 rfl ?_
      refine Ev.aload_n dX5_silences_3 rfl ?_
      refine Ev.geti (2) dX5_silences_4 fl_X5_44 lm_0 (by decide) rfl rfl ?_
      refine Ev.icmp_ge (tgt := 23) dX5_silences_7 rfl (fun c7 => ?_) (fun c7 => ?_)
      · skip
        refine Ev.vret dX5_silences_23 rfl ?_
        rw [hρ, show (σ 2).toNat = k by omega]
      · skip
        exact absurd c7 (by omega)
    | succ j ih =>
      intro k ρ hk hρ
      have e2 : ρ 2 = σ 2 := by rw [hρ]; exact it_at (fun k σ => by unfold m_all; (repeat' split) <;> (try rfl) <;> simp (disch := omega) only [ev_up_ne]) k
      refine Ev.iload_n dX5_silences_2 rfl ?_
      refine Ev.aload_n dX5_silences_3 rfl ?_
      refine Ev.geti (2) dX5_silences_4 fl_X5_44 lm_0 (by decide) rfl rfl ?_
      refine Ev.icmp_ge (tgt := 23) dX5_silences_7 rfl (fun c7 => ?_) (fun c7 => ?_)
      · skip
        exact absurd c7 (by omega)
      · skip
        refine Ev.aload_n dX5_silences_10 rfl ?_
        refine Ev.iload_n dX5_silences_11 rfl ?_
        refine Ev.iconst dX5_silences_12 ⟨by decide, by decide⟩ ?_
        refine Ev.iconst dX5_silences_13 ⟨by decide, by decide⟩ ?_
        refine Ev.Vv3 (I' := jX5_puts) ml_X5_47 dX5_silences_14 cyX5_puts lm_0 rfl (by decide) ⟨by decide, by decide⟩ (by simp) rfl rfl (s_X5_puts (by omega) (by omega) (by decide) (by decide)) (fun σ' hq => ?_)
        subst hq
        refine Ev.iinc1 dX5_silences_17 (by unfold ev_in; omega) ?_
        refine Ev.goto (tgt := 2) dX5_silences_20 rfl ?_
        refine ih (k + 1) _ (by omega) ?_
        rw [show it (m_all 5 0) σ (k + 1) = (m_all 5 0) (k : Int) (it (m_all 5 0) σ k) from rfl, ← hρ]
        unfold m_all
        first | (exfalso; omega) | rfl | (repeat (first | rw [if_pos (by omega)] | rw [if_neg (by omega)]))
  refine Ev.iconst dX5_silences_0 ⟨by decide, by decide⟩ ?_
  refine Ev.istore1 rfl dX5_silences_1 ?_
  exact loop (σ 2).toNat 0 σ (by omega) rfl
def m_addr (a how : Int) (d : Int) (τ : ev_M) : ev_M := if τ (300 + (18 * d + 1)) = a then (if τ (300 + (18 * d + 2)) < 31 then ev_up τ (300 + (18 * d + 17)) how else if how = 1 then ev_up (ev_up τ (300 + (18 * d + 6)) 1) (300 + (18 * d + 7)) 1 else ev_up τ (300 + (18 * d + 5)) 1) else τ
theorem s_X5_addresses {a how : Int} {σ : ev_M}  (h2 : 0 ≤ σ 2) (h2' : σ 2 ≤ 6) : Ev jX5_addresses layM 0 [some (rv 0), some (iv a), some (iv how), none] [] σ (fun _ σ' => σ' = it (m_addr a how) σ (σ 2).toNat) := by
  have loop : ∀ (j k : Nat) (ρ : ev_M), (k : Int) + j = σ 2 → ρ = it (m_addr a how) σ k → Ev jX5_addresses layM 2 [some (rv 0), some (iv a), some (iv how), some (iv (k : Int))] [] ρ (fun _ σ' => σ' = it (m_addr a how) σ (σ 2).toNat) := by
    intro j
    induction j with
    | zero =>
      intro k ρ hk hρ
      have e2 : ρ 2 = σ 2 := by rw [hρ]; exact it_at (fun k σ => by unfold m_addr; (repeat' split) <;> (try rfl) <;> simp (disch := omega) only [ev_up_ne]) k
      refine Ev.iload_n dX5_addresses_2 rfl ?_
      refine Ev.aload_n dX5_addresses_3 rfl ?_
      refine Ev.geti (2) dX5_addresses_4 fl_X5_44 lm_0 (by decide) rfl rfl ?_
      refine Ev.icmp_ge (tgt := 68) dX5_addresses_7 rfl (fun c7 => ?_) (fun c7 => ?_)
      · skip
        refine Ev.vret dX5_addresses_68 rfl ?_
        rw [hρ, show (σ 2).toNat = k by omega]
      · skip
        exact absurd c7 (by omega)
    | succ j ih =>
      intro k ρ hk hρ
      have e2 : ρ 2 = σ 2 := by rw [hρ]; exact it_at (fun k σ => by unfold m_addr; (repeat' split) <;> (try rfl) <;> simp (disch := omega) only [ev_up_ne]) k
      refine Ev.iload_n dX5_addresses_2 rfl ?_
      refine Ev.aload_n dX5_addresses_3 rfl ?_
      refine Ev.geti (2) dX5_addresses_4 fl_X5_44 lm_0 (by decide) rfl rfl ?_
      refine Ev.icmp_ge (tgt := 68) dX5_addresses_7 rfl (fun c7 => ?_) (fun c7 => ?_)
      · skip
        exact absurd c7 (by omega)
      · skip
        refine Ev.aload_n dX5_addresses_10 rfl ?_
        refine Ev.iload_n dX5_addresses_11 rfl ?_
        refine Ev.iconst dX5_addresses_12 ⟨by decide, by decide⟩ ?_
        refine Ev.Vi2 (I' := jX5_of) ml_X5_100 dX5_addresses_13 cyX5_of lm_0 rfl (by decide) ⟨by decide, by decide⟩ (by simp) rfl rfl (s_X5_of (by omega) (by omega) (by decide) (by decide)) (fun r σ' hr13 hq => ?_)
        obtain ⟨rfl, hq⟩ := hq
        replace hq := hq.symm
        subst hq
        refine Ev.iload_n dX5_addresses_16 rfl ?_
        refine Ev.icmp_ne (tgt := 62) dX5_addresses_17 rfl (fun c17 => ?_) (fun c17 => ?_)
        · skip
          refine Ev.iinc3 dX5_addresses_62 (by unfold ev_in; omega) ?_
          refine Ev.goto (tgt := 2) dX5_addresses_65 rfl ?_
          refine ih (k + 1) _ (by omega) ?_
          rw [show it (m_addr a how) σ (k + 1) = (m_addr a how) (k : Int) (it (m_addr a how) σ k) from rfl, ← hρ]
          unfold m_addr
          first | (exfalso; omega) | rfl | (repeat (first | rw [if_pos (by omega)] | rw [if_neg (by omega)]))
        · skip
          refine Ev.aload_n dX5_addresses_20 rfl ?_
          refine Ev.iload_n dX5_addresses_21 rfl ?_
          refine Ev.iconst dX5_addresses_22 ⟨by decide, by decide⟩ ?_
          refine Ev.Vi2 (I' := jX5_of) ml_X5_100 dX5_addresses_23 cyX5_of lm_0 rfl (by decide) ⟨by decide, by decide⟩ (by simp) rfl rfl (s_X5_of (by omega) (by omega) (by decide) (by decide)) (fun r σ' hr23 hq => ?_)
          obtain ⟨rfl, hq⟩ := hq
          replace hq := hq.symm
          subst hq
          refine Ev.bipush dX5_addresses_26 ⟨by decide, by decide⟩ (by decide) ?_
          refine Ev.icmp_ge (tgt := 42) dX5_addresses_28 rfl (fun c28 => ?_) (fun c28 => ?_)
          · skip
            refine Ev.iload_n dX5_addresses_42 rfl ?_
            refine Ev.iconst dX5_addresses_43 ⟨by decide, by decide⟩ ?_
            refine Ev.icmp_ne (tgt := 55) dX5_addresses_44 rfl (fun c44 => ?_) (fun c44 => ?_)
            · skip
              refine Ev.aload_n dX5_addresses_55 rfl ?_
              refine Ev.iload_n dX5_addresses_56 rfl ?_
              refine Ev.iconst dX5_addresses_57 ⟨by decide, by decide⟩ ?_
              refine Ev.iconst dX5_addresses_58 ⟨by decide, by decide⟩ ?_
              refine Ev.Vv3 (I' := jX5_puts) ml_X5_47 dX5_addresses_59 cyX5_puts lm_0 rfl (by decide) ⟨by decide, by decide⟩ (by simp) rfl rfl (s_X5_puts (by omega) (by omega) (by decide) (by decide)) (fun σ' hq => ?_)
              subst hq
              refine Ev.iinc3 dX5_addresses_62 (by unfold ev_in; omega) ?_
              refine Ev.goto (tgt := 2) dX5_addresses_65 rfl ?_
              refine ih (k + 1) _ (by omega) ?_
              rw [show it (m_addr a how) σ (k + 1) = (m_addr a how) (k : Int) (it (m_addr a how) σ k) from rfl, ← hρ]
              unfold m_addr
              first | (exfalso; omega) | rfl | (repeat (first | rw [if_pos (by omega)] | rw [if_neg (by omega)]))
            · skip
              refine Ev.aload_n dX5_addresses_47 rfl ?_
              refine Ev.iload_n dX5_addresses_48 rfl ?_
              refine Ev.Vv1 (I' := jX5_listens) ml_X5_120 dX5_addresses_49 cyX5_listens lm_0 rfl (by decide) ⟨by decide, by decide⟩ (by simp) rfl rfl (s_X5_listens (by omega) (by omega)) (fun σ' hq => ?_)
              subst hq
              refine Ev.goto (tgt := 62) dX5_addresses_52 rfl ?_
              refine Ev.iinc3 dX5_addresses_62 (by unfold ev_in; omega) ?_
              refine Ev.goto (tgt := 2) dX5_addresses_65 rfl ?_
              refine ih (k + 1) _ (by omega) ?_
              rw [show it (m_addr a how) σ (k + 1) = (m_addr a how) (k : Int) (it (m_addr a how) σ k) from rfl, ← hρ]
              unfold m_addr
              first | (exfalso; omega) | rfl | (repeat (first | rw [if_pos (by omega)] | rw [if_neg (by omega)]))
          · skip
            refine Ev.aload_n dX5_addresses_31 rfl ?_
            refine Ev.iload_n dX5_addresses_32 rfl ?_
            refine Ev.bipush dX5_addresses_33 ⟨by decide, by decide⟩ (by decide) ?_
            refine Ev.iload_n dX5_addresses_35 rfl ?_
            refine Ev.Vv3 (I' := jX5_puts) ml_X5_47 dX5_addresses_36 cyX5_puts lm_0 rfl (by decide) ⟨by decide, by decide⟩ (by simp) rfl rfl (s_X5_puts (by omega) (by omega) (by decide) (by decide)) (fun σ' hq => ?_)
            subst hq
            refine Ev.goto (tgt := 62) dX5_addresses_39 rfl ?_
            refine Ev.iinc3 dX5_addresses_62 (by unfold ev_in; omega) ?_
            refine Ev.goto (tgt := 2) dX5_addresses_65 rfl ?_
            refine ih (k + 1) _ (by omega) ?_
            rw [show it (m_addr a how) σ (k + 1) = (m_addr a how) (k : Int) (it (m_addr a how) σ k) from rfl, ← hρ]
            unfold m_addr
            first | (exfalso; omega) | rfl | (repeat (first | rw [if_pos (by omega)] | rw [if_neg (by omega)]))
  refine Ev.iconst dX5_addresses_0 ⟨by decide, by decide⟩ ?_
  refine Ev.istore3 rfl dX5_addresses_1 ?_
  exact loop (σ 2).toNat 0 σ (by omega) rfl
def m_sec1 (s tl : Int) (d : Int) (τ : ev_M) : ev_M := if ev_and (ev_shr tl d) 1 = 1 ∧ τ (300 + (18 * d + 2)) = s then ev_up (ev_up τ (300 + (18 * d + 6)) 1) (300 + (18 * d + 7)) 1 else τ
def m_sec (s tl tt : Int) (d : Int) (τ : ev_M) : ev_M := if ev_and (ev_shr tt d) 1 = 1 ∧ τ (300 + (18 * d + 2)) = s then ev_up (it (m_all 5 0) (m_sec1 s tl d τ) (τ 2).toNat) (300 + (18 * d + 5)) 1 else m_sec1 s tl d τ
theorem m_sec1_2 {s tl d n : Int} {τ : ev_M} (h0 : 0 ≤ d) (hn : n < 300) : m_sec1 s tl d τ n = τ n := by unfold m_sec1; split <;> (try rfl) <;> simp (disch := omega) only [ev_up_ne]
theorem m_sec_2 {s tl tt d n : Int} {τ : ev_M} (h0 : 0 ≤ d) (hn : n < 300) : m_sec s tl tt d τ n = τ n := by
  unfold m_sec
  split
  · rw [ev_up_ne (by omega), it_at (fun k σ => by unfold m_all; exact ev_up_ne (by omega)), m_sec1_2 h0 hn]
  · exact m_sec1_2 h0 hn
theorem s_X5_seconds {s tl tt : Int} {σ : ev_M}  (h2 : 0 ≤ σ 2) (h2' : σ 2 ≤ 6) : Ev jX5_seconds layM 0 [some (rv 0), some (iv s), some (iv tl), some (iv tt), none] [] σ (fun _ σ' => σ' = it (m_sec s tl tt) σ (σ 2).toNat) := by
  have loop : ∀ (j k : Nat) (ρ : ev_M), (k : Int) + j = σ 2 → ρ = it (m_sec s tl tt) σ k → Ev jX5_seconds layM 3 [some (rv 0), some (iv s), some (iv tl), some (iv tt), some (iv (k : Int))] [] ρ (fun _ σ' => σ' = it (m_sec s tl tt) σ (σ 2).toNat) := by
    intro j
    induction j with
    | zero =>
      intro k ρ hk hρ
      have e2 : ρ 2 = σ 2 := by rw [hρ]; exact it_at (fun k σ => m_sec_2 (by omega) (by decide)) k
      refine Ev.iload dX5_seconds_3 rfl ?_
      refine Ev.aload_n dX5_seconds_5 rfl ?_
      refine Ev.geti (2) dX5_seconds_6 fl_X5_44 lm_0 (by decide) rfl rfl ?_
      refine Ev.icmp_ge (tgt := 78) dX5_seconds_9 rfl (fun c9 => ?_) (fun c9 => ?_)
      · skip
        refine Ev.vret dX5_seconds_78 rfl ?_
        rw [hρ, show (σ 2).toNat = k by omega]
      · skip
        exact absurd c9 (by omega)
    | succ j ih =>
      intro k ρ hk hρ
      have e2 : ρ 2 = σ 2 := by rw [hρ]; exact it_at (fun k σ => m_sec_2 (by omega) (by decide)) k
      refine Ev.iload dX5_seconds_3 rfl ?_
      refine Ev.aload_n dX5_seconds_5 rfl ?_
      refine Ev.geti (2) dX5_seconds_6 fl_X5_44 lm_0 (by decide) rfl rfl ?_
      refine Ev.icmp_ge (tgt := 78) dX5_seconds_9 rfl (fun c9 => ?_) (fun c9 => ?_)
      · skip
        exact absurd c9 (by omega)
      · skip
        refine Ev.iload_n dX5_seconds_12 rfl ?_
        refine Ev.iload dX5_seconds_13 rfl ?_
        refine Ev.ishr dX5_seconds_15 ?_
        refine Ev.iconst dX5_seconds_16 ⟨by decide, by decide⟩ ?_
        refine Ev.iand dX5_seconds_17 ?_
        refine Ev.iconst dX5_seconds_18 ⟨by decide, by decide⟩ ?_
        refine Ev.icmp_ne (tgt := 39) dX5_seconds_19 rfl (fun c19 => ?_) (fun c19 => ?_)
        · skip
          refine Ev.iload_n dX5_seconds_39 rfl ?_
          refine Ev.iload dX5_seconds_40 rfl ?_
          refine Ev.ishr dX5_seconds_42 ?_
          refine Ev.iconst dX5_seconds_43 ⟨by decide, by decide⟩ ?_
          refine Ev.iand dX5_seconds_44 ?_
          refine Ev.iconst dX5_seconds_45 ⟨by decide, by decide⟩ ?_
          refine Ev.icmp_ne (tgt := 72) dX5_seconds_46 rfl (fun c46 => ?_) (fun c46 => ?_)
          · skip
            refine Ev.iinc4 dX5_seconds_72 (by unfold ev_in; omega) ?_
            refine Ev.goto (tgt := 3) dX5_seconds_75 rfl ?_
            refine ih (k + 1) _ (by omega) ?_
            rw [show it (m_sec s tl tt) σ (k + 1) = (m_sec s tl tt) (k : Int) (it (m_sec s tl tt) σ k) from rfl, ← hρ]
            unfold m_sec m_sec1
            first | (exfalso; omega) | rfl | (repeat (first | rw [if_pos (by omega)] | rw [if_neg (by omega)]))
          · skip
            refine Ev.aload_n dX5_seconds_49 rfl ?_
            refine Ev.iload dX5_seconds_50 rfl ?_
            refine Ev.iconst dX5_seconds_52 ⟨by decide, by decide⟩ ?_
            refine Ev.Vi2 (I' := jX5_of) ml_X5_100 dX5_seconds_53 cyX5_of lm_0 rfl (by decide) ⟨by decide, by decide⟩ (by simp) rfl rfl (s_X5_of (by omega) (by omega) (by decide) (by decide)) (fun r σ' hr53 hq => ?_)
            obtain ⟨rfl, hq⟩ := hq
            replace hq := hq.symm
            subst hq
            refine Ev.iload_n dX5_seconds_56 rfl ?_
            refine Ev.icmp_ne (tgt := 72) dX5_seconds_57 rfl (fun c57 => ?_) (fun c57 => ?_)
            · skip
              refine Ev.iinc4 dX5_seconds_72 (by unfold ev_in; omega) ?_
              refine Ev.goto (tgt := 3) dX5_seconds_75 rfl ?_
              refine ih (k + 1) _ (by omega) ?_
              rw [show it (m_sec s tl tt) σ (k + 1) = (m_sec s tl tt) (k : Int) (it (m_sec s tl tt) σ k) from rfl, ← hρ]
              unfold m_sec m_sec1
              first | (exfalso; omega) | rfl | (repeat (first | rw [if_pos (by omega)] | rw [if_neg (by omega)]))
            · skip
              refine Ev.aload_n dX5_seconds_60 rfl ?_
              refine Ev.Vv0 (I' := jX5_silences) ml_X5_123 dX5_seconds_61 cyX5_silences lm_0 rfl (by decide) ⟨by decide, by decide⟩ (by simp) rfl rfl (s_X5_silences (by first | omega | (simp (disch := omega) only [ev_up_ne]; omega)) (by first | omega | (simp (disch := omega) only [ev_up_ne]; omega))) (fun σ' hq => ?_)
              subst hq
              try simp (disch := omega) only [ev_up_ne]
              refine Ev.aload_n dX5_seconds_64 rfl ?_
              refine Ev.iload dX5_seconds_65 rfl ?_
              refine Ev.iconst dX5_seconds_67 ⟨by decide, by decide⟩ ?_
              refine Ev.iconst dX5_seconds_68 ⟨by decide, by decide⟩ ?_
              refine Ev.Vv3 (I' := jX5_puts) ml_X5_47 dX5_seconds_69 cyX5_puts lm_0 rfl (by decide) ⟨by decide, by decide⟩ (by simp) rfl rfl (s_X5_puts (by omega) (by omega) (by decide) (by decide)) (fun σ' hq => ?_)
              subst hq
              refine Ev.iinc4 dX5_seconds_72 (by unfold ev_in; omega) ?_
              refine Ev.goto (tgt := 3) dX5_seconds_75 rfl ?_
              refine ih (k + 1) _ (by omega) ?_
              rw [show it (m_sec s tl tt) σ (k + 1) = (m_sec s tl tt) (k : Int) (it (m_sec s tl tt) σ k) from rfl, ← hρ]
              unfold m_sec m_sec1
              first | (exfalso; omega) | rfl | (repeat (first | rw [if_pos (by omega)] | rw [if_neg (by omega)]))
        · skip
          refine Ev.aload_n dX5_seconds_22 rfl ?_
          refine Ev.iload dX5_seconds_23 rfl ?_
          refine Ev.iconst dX5_seconds_25 ⟨by decide, by decide⟩ ?_
          refine Ev.Vi2 (I' := jX5_of) ml_X5_100 dX5_seconds_26 cyX5_of lm_0 rfl (by decide) ⟨by decide, by decide⟩ (by simp) rfl rfl (s_X5_of (by omega) (by omega) (by decide) (by decide)) (fun r σ' hr26 hq => ?_)
          obtain ⟨rfl, hq⟩ := hq
          replace hq := hq.symm
          subst hq
          refine Ev.iload_n dX5_seconds_29 rfl ?_
          refine Ev.icmp_ne (tgt := 39) dX5_seconds_30 rfl (fun c30 => ?_) (fun c30 => ?_)
          · skip
            refine Ev.iload_n dX5_seconds_39 rfl ?_
            refine Ev.iload dX5_seconds_40 rfl ?_
            refine Ev.ishr dX5_seconds_42 ?_
            refine Ev.iconst dX5_seconds_43 ⟨by decide, by decide⟩ ?_
            refine Ev.iand dX5_seconds_44 ?_
            refine Ev.iconst dX5_seconds_45 ⟨by decide, by decide⟩ ?_
            refine Ev.icmp_ne (tgt := 72) dX5_seconds_46 rfl (fun c46 => ?_) (fun c46 => ?_)
            · skip
              refine Ev.iinc4 dX5_seconds_72 (by unfold ev_in; omega) ?_
              refine Ev.goto (tgt := 3) dX5_seconds_75 rfl ?_
              refine ih (k + 1) _ (by omega) ?_
              rw [show it (m_sec s tl tt) σ (k + 1) = (m_sec s tl tt) (k : Int) (it (m_sec s tl tt) σ k) from rfl, ← hρ]
              unfold m_sec m_sec1
              first | (exfalso; omega) | rfl | (repeat (first | rw [if_pos (by omega)] | rw [if_neg (by omega)]))
            · skip
              refine Ev.aload_n dX5_seconds_49 rfl ?_
              refine Ev.iload dX5_seconds_50 rfl ?_
              refine Ev.iconst dX5_seconds_52 ⟨by decide, by decide⟩ ?_
              refine Ev.Vi2 (I' := jX5_of) ml_X5_100 dX5_seconds_53 cyX5_of lm_0 rfl (by decide) ⟨by decide, by decide⟩ (by simp) rfl rfl (s_X5_of (by omega) (by omega) (by decide) (by decide)) (fun r σ' hr53 hq => ?_)
              obtain ⟨rfl, hq⟩ := hq
              replace hq := hq.symm
              subst hq
              refine Ev.iload_n dX5_seconds_56 rfl ?_
              refine Ev.icmp_ne (tgt := 72) dX5_seconds_57 rfl (fun c57 => ?_) (fun c57 => ?_)
              · skip
                refine Ev.iinc4 dX5_seconds_72 (by unfold ev_in; omega) ?_
                refine Ev.goto (tgt := 3) dX5_seconds_75 rfl ?_
                refine ih (k + 1) _ (by omega) ?_
                rw [show it (m_sec s tl tt) σ (k + 1) = (m_sec s tl tt) (k : Int) (it (m_sec s tl tt) σ k) from rfl, ← hρ]
                unfold m_sec m_sec1
                first | (exfalso; omega) | rfl | (repeat (first | rw [if_pos (by omega)] | rw [if_neg (by omega)]))
              · skip
                refine Ev.aload_n dX5_seconds_60 rfl ?_
                refine Ev.Vv0 (I' := jX5_silences) ml_X5_123 dX5_seconds_61 cyX5_silences lm_0 rfl (by decide) ⟨by decide, by decide⟩ (by simp) rfl rfl (s_X5_silences (by first | omega | (simp (disch := omega) only [ev_up_ne]; omega)) (by first | omega | (simp (disch := omega) only [ev_up_ne]; omega))) (fun σ' hq => ?_)
                subst hq
                try simp (disch := omega) only [ev_up_ne]
                refine Ev.aload_n dX5_seconds_64 rfl ?_
                refine Ev.iload dX5_seconds_65 rfl ?_
                refine Ev.iconst dX5_seconds_67 ⟨by decide, by decide⟩ ?_
                refine Ev.iconst dX5_seconds_68 ⟨by decide, by decide⟩ ?_
                refine Ev.Vv3 (I' := jX5_puts) ml_X5_47 dX5_seconds_69 cyX5_puts lm_0 rfl (by decide) ⟨by decide, by decide⟩ (by simp) rfl rfl (s_X5_puts (by omega) (by omega) (by decide) (by decide)) (fun σ' hq => ?_)
                subst hq
                refine Ev.iinc4 dX5_seconds_72 (by unfold ev_in; omega) ?_
                refine Ev.goto (tgt := 3) dX5_seconds_75 rfl ?_
                refine ih (k + 1) _ (by omega) ?_
                rw [show it (m_sec s tl tt) σ (k + 1) = (m_sec s tl tt) (k : Int) (it (m_sec s tl tt) σ k) from rfl, ← hρ]
                unfold m_sec m_sec1
                first | (exfalso; omega) | rfl | (repeat (first | rw [if_pos (by omega)] | rw [if_neg (by omega)]))
          · skip
            refine Ev.aload_n dX5_seconds_33 rfl ?_
            refine Ev.iload dX5_seconds_34 rfl ?_
            refine Ev.Vv1 (I' := jX5_listens) ml_X5_120 dX5_seconds_36 cyX5_listens lm_0 rfl (by decide) ⟨by decide, by decide⟩ (by simp) rfl rfl (s_X5_listens (by omega) (by omega)) (fun σ' hq => ?_)
            subst hq
            refine Ev.iload_n dX5_seconds_39 rfl ?_
            refine Ev.iload dX5_seconds_40 rfl ?_
            refine Ev.ishr dX5_seconds_42 ?_
            refine Ev.iconst dX5_seconds_43 ⟨by decide, by decide⟩ ?_
            refine Ev.iand dX5_seconds_44 ?_
            refine Ev.iconst dX5_seconds_45 ⟨by decide, by decide⟩ ?_
            refine Ev.icmp_ne (tgt := 72) dX5_seconds_46 rfl (fun c46 => ?_) (fun c46 => ?_)
            · skip
              refine Ev.iinc4 dX5_seconds_72 (by unfold ev_in; omega) ?_
              refine Ev.goto (tgt := 3) dX5_seconds_75 rfl ?_
              refine ih (k + 1) _ (by omega) ?_
              rw [show it (m_sec s tl tt) σ (k + 1) = (m_sec s tl tt) (k : Int) (it (m_sec s tl tt) σ k) from rfl, ← hρ]
              unfold m_sec m_sec1
              first | (exfalso; omega) | rfl | (repeat (first | rw [if_pos (by omega)] | rw [if_neg (by omega)]))
            · skip
              refine Ev.aload_n dX5_seconds_49 rfl ?_
              refine Ev.iload dX5_seconds_50 rfl ?_
              refine Ev.iconst dX5_seconds_52 ⟨by decide, by decide⟩ ?_
              refine Ev.Vi2 (I' := jX5_of) ml_X5_100 dX5_seconds_53 cyX5_of lm_0 rfl (by decide) ⟨by decide, by decide⟩ (by simp) rfl rfl (s_X5_of (by omega) (by omega) (by decide) (by decide)) (fun r σ' hr53 hq => ?_)
              obtain ⟨rfl, hq⟩ := hq
              replace hq := hq.symm
              subst hq
              try simp (disch := omega) only [ev_up_ne, ev_up_eqs]
              refine Ev.iload_n dX5_seconds_56 rfl ?_
              refine Ev.icmp_ne (tgt := 72) dX5_seconds_57 rfl (fun c57 => ?_) (fun c57 => ?_)
              · skip
                refine Ev.iinc4 dX5_seconds_72 (by unfold ev_in; omega) ?_
                refine Ev.goto (tgt := 3) dX5_seconds_75 rfl ?_
                refine ih (k + 1) _ (by omega) ?_
                rw [show it (m_sec s tl tt) σ (k + 1) = (m_sec s tl tt) (k : Int) (it (m_sec s tl tt) σ k) from rfl, ← hρ]
                unfold m_sec m_sec1
                first | (exfalso; omega) | rfl | (repeat (first | rw [if_pos (by omega)] | rw [if_neg (by omega)]))
              · skip
                refine Ev.aload_n dX5_seconds_60 rfl ?_
                refine Ev.Vv0 (I' := jX5_silences) ml_X5_123 dX5_seconds_61 cyX5_silences lm_0 rfl (by decide) ⟨by decide, by decide⟩ (by simp) rfl rfl (s_X5_silences (by first | omega | (simp (disch := omega) only [ev_up_ne]; omega)) (by first | omega | (simp (disch := omega) only [ev_up_ne]; omega))) (fun σ' hq => ?_)
                subst hq
                try simp (disch := omega) only [ev_up_ne]
                refine Ev.aload_n dX5_seconds_64 rfl ?_
                refine Ev.iload dX5_seconds_65 rfl ?_
                refine Ev.iconst dX5_seconds_67 ⟨by decide, by decide⟩ ?_
                refine Ev.iconst dX5_seconds_68 ⟨by decide, by decide⟩ ?_
                refine Ev.Vv3 (I' := jX5_puts) ml_X5_47 dX5_seconds_69 cyX5_puts lm_0 rfl (by decide) ⟨by decide, by decide⟩ (by simp) rfl rfl (s_X5_puts (by omega) (by omega) (by decide) (by decide)) (fun σ' hq => ?_)
                subst hq
                refine Ev.iinc4 dX5_seconds_72 (by unfold ev_in; omega) ?_
                refine Ev.goto (tgt := 3) dX5_seconds_75 rfl ?_
                refine ih (k + 1) _ (by omega) ?_
                rw [show it (m_sec s tl tt) σ (k + 1) = (m_sec s tl tt) (k : Int) (it (m_sec s tl tt) σ k) from rfl, ← hρ]
                unfold m_sec m_sec1
                first | (exfalso; omega) | rfl | (repeat (first | rw [if_pos (by omega)] | rw [if_neg (by omega)]))
  refine Ev.iconst dX5_seconds_0 ⟨by decide, by decide⟩ ?_
  refine Ev.istore4 dX5_seconds_1 ?_
  exact loop (σ 2).toNat 0 σ (by omega) rfl
def m_prep (c : Int) (d : Int) (τ : ev_M) : ev_M := if ev_and (ev_shr (τ 9) d) 1 = 1 then ev_up (ev_up τ (300 + (18 * d + 11)) (if c < 112 then (c - 96) % 8 else -4)) (300 + (18 * d + 12)) (if c < 112 then (c - 96) / 8 else 0) else τ
theorem s_X5_prepares {c : Int} {σ : ev_M} (hc : 96 ≤ c) (hc2 : c ≤ 127) (h2 : 0 ≤ σ 2) (h2' : σ 2 ≤ 6) : Ev jX5_prepares layM 0 [some (rv 0), some (iv c), none] [] σ (fun _ σ' => σ' = it (m_prep c) σ (σ 2).toNat) := by
  have loop : ∀ (j k : Nat) (ρ : ev_M), (k : Int) + j = σ 2 → ρ = it (m_prep c) σ k → Ev jX5_prepares layM 2 [some (rv 0), some (iv c), some (iv (k : Int))] [] ρ (fun _ σ' => σ' = it (m_prep c) σ (σ 2).toNat) := by
    intro j
    induction j with
    | zero =>
      intro k ρ hk hρ
      have e2 : ρ 2 = σ 2 := by rw [hρ]; exact it_at (fun k σ => by unfold m_prep; (repeat' split) <;> (try rfl) <;> simp (disch := omega) only [ev_up_ne]) k
      refine Ev.iload_n dX5_prepares_2 rfl ?_
      refine Ev.aload_n dX5_prepares_3 rfl ?_
      refine Ev.geti (2) dX5_prepares_4 fl_X5_44 lm_0 (by decide) rfl rfl ?_
      refine Ev.icmp_ge (tgt := 77) dX5_prepares_7 rfl (fun c7 => ?_) (fun c7 => ?_)
      · skip
        refine Ev.vret dX5_prepares_77 rfl ?_
        rw [hρ, show (σ 2).toNat = k by omega]
      · skip
        exact absurd c7 (by omega)
    | succ j ih =>
      intro k ρ hk hρ
      have e2 : ρ 2 = σ 2 := by rw [hρ]; exact it_at (fun k σ => by unfold m_prep; (repeat' split) <;> (try rfl) <;> simp (disch := omega) only [ev_up_ne]) k
      refine Ev.iload_n dX5_prepares_2 rfl ?_
      refine Ev.aload_n dX5_prepares_3 rfl ?_
      refine Ev.geti (2) dX5_prepares_4 fl_X5_44 lm_0 (by decide) rfl rfl ?_
      refine Ev.icmp_ge (tgt := 77) dX5_prepares_7 rfl (fun c7 => ?_) (fun c7 => ?_)
      · skip
        exact absurd c7 (by omega)
      · skip
        refine Ev.aload_n dX5_prepares_10 rfl ?_
        refine Ev.geti (9) dX5_prepares_11 fl_X5_63 lm_0 (by decide) rfl rfl ?_
        refine Ev.iload_n dX5_prepares_14 rfl ?_
        refine Ev.ishr dX5_prepares_15 ?_
        refine Ev.iconst dX5_prepares_16 ⟨by decide, by decide⟩ ?_
        refine Ev.iand dX5_prepares_17 ?_
        refine Ev.iconst dX5_prepares_18 ⟨by decide, by decide⟩ ?_
        refine Ev.icmp_ne (tgt := 71) dX5_prepares_19 rfl (fun c19 => ?_) (fun c19 => ?_)
        · skip
          refine Ev.iinc2 dX5_prepares_71 (by unfold ev_in; omega) ?_
          refine Ev.goto (tgt := 2) dX5_prepares_74 rfl ?_
          refine ih (k + 1) _ (by omega) ?_
          rw [show it (m_prep c) σ (k + 1) = (m_prep c) (k : Int) (it (m_prep c) σ k) from rfl, ← hρ]
          unfold m_prep
          first | (exfalso; omega) | rfl | (repeat (first | rw [if_pos (by omega)] | rw [if_neg (by omega)]))
        · skip
          refine Ev.aload_n dX5_prepares_22 rfl ?_
          refine Ev.iload_n dX5_prepares_23 rfl ?_
          refine Ev.bipush dX5_prepares_24 ⟨by decide, by decide⟩ (by decide) ?_
          refine Ev.iload_n dX5_prepares_26 rfl ?_
          refine Ev.bipush dX5_prepares_27 ⟨by decide, by decide⟩ (by decide) ?_
          refine Ev.icmp_ge (tgt := 42) dX5_prepares_29 rfl (fun c29 => ?_) (fun c29 => ?_)
          · skip
            refine Ev.bipush dX5_prepares_42 ⟨by decide, by decide⟩ (by decide) ?_
            refine Ev.Vv3 (I' := jX5_puts) ml_X5_47 dX5_prepares_44 cyX5_puts lm_0 rfl (by decide) ⟨by decide, by decide⟩ (by simp) rfl rfl (s_X5_puts (by omega) (by omega) (by decide) (by decide)) (fun σ' hq => ?_)
            subst hq
            refine Ev.aload_n dX5_prepares_47 rfl ?_
            refine Ev.iload_n dX5_prepares_48 rfl ?_
            refine Ev.bipush dX5_prepares_49 ⟨by decide, by decide⟩ (by decide) ?_
            refine Ev.iload_n dX5_prepares_51 rfl ?_
            refine Ev.bipush dX5_prepares_52 ⟨by decide, by decide⟩ (by decide) ?_
            refine Ev.icmp_ge (tgt := 67) dX5_prepares_54 rfl (fun c54 => ?_) (fun c54 => ?_)
            · skip
              refine Ev.iconst dX5_prepares_67 ⟨by decide, by decide⟩ ?_
              refine Ev.Vv3 (I' := jX5_puts) ml_X5_47 dX5_prepares_68 cyX5_puts lm_0 rfl (by decide) ⟨by decide, by decide⟩ (by simp) rfl rfl (s_X5_puts (by omega) (by omega) (by decide) (by decide)) (fun σ' hq => ?_)
              subst hq
              refine Ev.iinc2 dX5_prepares_71 (by unfold ev_in; omega) ?_
              refine Ev.goto (tgt := 2) dX5_prepares_74 rfl ?_
              refine ih (k + 1) _ (by omega) ?_
              rw [show it (m_prep c) σ (k + 1) = (m_prep c) (k : Int) (it (m_prep c) σ k) from rfl, ← hρ]
              unfold m_prep
              first | (exfalso; omega) | rfl | (repeat (first | rw [if_pos (by omega)] | rw [if_neg (by omega)]))
            · skip
              refine Ev.iload_n dX5_prepares_57 rfl ?_
              refine Ev.bipush dX5_prepares_58 ⟨by decide, by decide⟩ (by decide) ?_
              refine Ev.isub dX5_prepares_60 (by unfold ev_in; omega) ?_
              refine Ev.bipush dX5_prepares_61 ⟨by decide, by decide⟩ (by decide) ?_
              refine Ev.idiv dX5_prepares_63 (by omega) (by decide) ?_
              refine Ev.goto (tgt := 68) dX5_prepares_64 rfl ?_
              refine Ev.Vv3 (I' := jX5_puts) ml_X5_47 dX5_prepares_68 cyX5_puts lm_0 rfl (by decide) ⟨by decide, by decide⟩ (by simp) rfl rfl (s_X5_puts (by omega) (by omega) (by decide) (by decide)) (fun σ' hq => ?_)
              subst hq
              refine Ev.iinc2 dX5_prepares_71 (by unfold ev_in; omega) ?_
              refine Ev.goto (tgt := 2) dX5_prepares_74 rfl ?_
              refine ih (k + 1) _ (by omega) ?_
              rw [show it (m_prep c) σ (k + 1) = (m_prep c) (k : Int) (it (m_prep c) σ k) from rfl, ← hρ]
              unfold m_prep
              first | (exfalso; omega) | rfl | (repeat (first | rw [if_pos (by omega)] | rw [if_neg (by omega)]))
          · skip
            refine Ev.iload_n dX5_prepares_32 rfl ?_
            refine Ev.bipush dX5_prepares_33 ⟨by decide, by decide⟩ (by decide) ?_
            refine Ev.isub dX5_prepares_35 (by unfold ev_in; omega) ?_
            refine Ev.bipush dX5_prepares_36 ⟨by decide, by decide⟩ (by decide) ?_
            refine Ev.irem dX5_prepares_38 (by omega) (by decide) ?_
            refine Ev.goto (tgt := 44) dX5_prepares_39 rfl ?_
            refine Ev.Vv3 (I' := jX5_puts) ml_X5_47 dX5_prepares_44 cyX5_puts lm_0 rfl (by decide) ⟨by decide, by decide⟩ (by simp) rfl rfl (s_X5_puts (by omega) (by omega) (by decide) (by decide)) (fun σ' hq => ?_)
            subst hq
            refine Ev.aload_n dX5_prepares_47 rfl ?_
            refine Ev.iload_n dX5_prepares_48 rfl ?_
            refine Ev.bipush dX5_prepares_49 ⟨by decide, by decide⟩ (by decide) ?_
            refine Ev.iload_n dX5_prepares_51 rfl ?_
            refine Ev.bipush dX5_prepares_52 ⟨by decide, by decide⟩ (by decide) ?_
            refine Ev.icmp_ge (tgt := 67) dX5_prepares_54 rfl (fun c54 => ?_) (fun c54 => ?_)
            · skip
              refine Ev.iconst dX5_prepares_67 ⟨by decide, by decide⟩ ?_
              refine Ev.Vv3 (I' := jX5_puts) ml_X5_47 dX5_prepares_68 cyX5_puts lm_0 rfl (by decide) ⟨by decide, by decide⟩ (by simp) rfl rfl (s_X5_puts (by omega) (by omega) (by decide) (by decide)) (fun σ' hq => ?_)
              subst hq
              refine Ev.iinc2 dX5_prepares_71 (by unfold ev_in; omega) ?_
              refine Ev.goto (tgt := 2) dX5_prepares_74 rfl ?_
              refine ih (k + 1) _ (by omega) ?_
              rw [show it (m_prep c) σ (k + 1) = (m_prep c) (k : Int) (it (m_prep c) σ k) from rfl, ← hρ]
              unfold m_prep
              first | (exfalso; omega) | rfl | (repeat (first | rw [if_pos (by omega)] | rw [if_neg (by omega)]))
            · skip
              refine Ev.iload_n dX5_prepares_57 rfl ?_
              refine Ev.bipush dX5_prepares_58 ⟨by decide, by decide⟩ (by decide) ?_
              refine Ev.isub dX5_prepares_60 (by unfold ev_in; omega) ?_
              refine Ev.bipush dX5_prepares_61 ⟨by decide, by decide⟩ (by decide) ?_
              refine Ev.idiv dX5_prepares_63 (by omega) (by decide) ?_
              refine Ev.goto (tgt := 68) dX5_prepares_64 rfl ?_
              refine Ev.Vv3 (I' := jX5_puts) ml_X5_47 dX5_prepares_68 cyX5_puts lm_0 rfl (by decide) ⟨by decide, by decide⟩ (by simp) rfl rfl (s_X5_puts (by omega) (by omega) (by decide) (by decide)) (fun σ' hq => ?_)
              subst hq
              refine Ev.iinc2 dX5_prepares_71 (by unfold ev_in; omega) ?_
              refine Ev.goto (tgt := 2) dX5_prepares_74 rfl ?_
              refine ih (k + 1) _ (by omega) ?_
              rw [show it (m_prep c) σ (k + 1) = (m_prep c) (k : Int) (it (m_prep c) σ k) from rfl, ← hρ]
              unfold m_prep
              first | (exfalso; omega) | rfl | (repeat (first | rw [if_pos (by omega)] | rw [if_neg (by omega)]))
  refine Ev.iconst dX5_prepares_0 ⟨by decide, by decide⟩ ?_
  refine Ev.istore2 rfl dX5_prepares_1 ?_
  exact loop (σ 2).toNat 0 σ (by omega) rfl
def tkf (τ : ev_M) : Nat → Int
  | 0 => -4
  | k + 1 => if tkf τ k = -4 then (if τ (300 + (18 * (k : Int) + 5)) = 1 then (k : Int) else -4) else tkf τ k
theorem tkf_stay {τ : ev_M} {k : Nat} (h : tkf τ k ≠ -4) : ∀ j : Nat, tkf τ (k + j) = tkf τ k
  | 0 => rfl
  | j + 1 => by
    show (if tkf τ (k + j) = -4 then _ else tkf τ (k + j)) = _
    rw [tkf_stay h j, if_neg h]
def m_talk (τ : ev_M) : Int := tkf τ (τ 2).toNat
theorem tkf_rng {τ : ev_M} : ∀ k : Nat, tkf τ k = -4 ∨ (0 ≤ tkf τ k ∧ tkf τ k < (k : Int))
  | 0 => Or.inl rfl
  | k + 1 => by
    have := tkf_rng (τ := τ) k
    show (if tkf τ k = -4 then (if τ (300 + (18 * (k : Int) + 5)) = 1 then (k : Int) else -4) else tkf τ k) = -4 ∨ (0 ≤ (if tkf τ k = -4 then (if τ (300 + (18 * (k : Int) + 5)) = 1 then (k : Int) else -4) else tkf τ k) ∧ (if tkf τ k = -4 then (if τ (300 + (18 * (k : Int) + 5)) = 1 then (k : Int) else -4) else tkf τ k) < ((k + 1 : Nat) : Int))
    split
    · split
      · right; omega
      · left; rfl
    · right; omega
theorem m_talk_rng {τ : ev_M} (h : 0 ≤ τ 2) : m_talk τ = -4 ∨ (0 ≤ m_talk τ ∧ m_talk τ < τ 2) := by
  have := tkf_rng (τ := τ) (τ 2).toNat
  unfold m_talk
  omega
theorem s_X5_talker {σ : ev_M} (h2 : 0 ≤ σ 2) (h2' : σ 2 ≤ 6) : Ev jX5_talker layM 0 [some (rv 0), none] [] σ (fun r σ' => r = m_talk σ ∧ σ' = σ) := by
  have loop : ∀ (j k : Nat), (k : Int) + j = σ 2 → tkf σ k = -4 → Ev jX5_talker layM 2 [some (rv 0), some (iv (k : Int))] [] σ (fun r σ' => r = m_talk σ ∧ σ' = σ) := by
    intro j
    induction j with
    | zero =>
      intro k hk ht
      refine Ev.iload_n dX5_talker_2 rfl ?_
      refine Ev.aload_n dX5_talker_3 rfl ?_
      refine Ev.geti (2) dX5_talker_4 fl_X5_44 lm_0 (by decide) rfl rfl ?_
      refine Ev.icmp_ge (tgt := 28) dX5_talker_7 rfl (fun c7 => ?_) (fun c7 => ?_)
      · skip
        refine Ev.bipush dX5_talker_28 ⟨by decide, by decide⟩ (by decide) ?_
        refine Ev.int rfl dX5_talker_30 ?_
        refine ⟨?_, rfl⟩
        unfold m_talk
        rw [show (σ 2).toNat = k by omega, ht]
      · skip
        exact absurd c7 (by omega)
    | succ j ih =>
      intro k hk ht
      refine Ev.iload_n dX5_talker_2 rfl ?_
      refine Ev.aload_n dX5_talker_3 rfl ?_
      refine Ev.geti (2) dX5_talker_4 fl_X5_44 lm_0 (by decide) rfl rfl ?_
      refine Ev.icmp_ge (tgt := 28) dX5_talker_7 rfl (fun c7 => ?_) (fun c7 => ?_)
      · skip
        exact absurd c7 (by omega)
      · skip
        refine Ev.aload_n dX5_talker_10 rfl ?_
        refine Ev.iload_n dX5_talker_11 rfl ?_
        refine Ev.iconst dX5_talker_12 ⟨by decide, by decide⟩ ?_
        refine Ev.Vi2 (I' := jX5_of) ml_X5_100 dX5_talker_13 cyX5_of lm_0 rfl (by decide) ⟨by decide, by decide⟩ (by simp) rfl rfl (s_X5_of (by omega) (by omega) (by decide) (by decide)) (fun r σ' hr13 hq => ?_)
        obtain ⟨rfl, hq⟩ := hq
        replace hq := hq.symm
        subst hq
        refine Ev.iconst dX5_talker_16 ⟨by decide, by decide⟩ ?_
        refine Ev.icmp_ne (tgt := 22) dX5_talker_17 rfl (fun c17 => ?_) (fun c17 => ?_)
        · skip
          refine Ev.iinc1 dX5_talker_22 (by unfold ev_in; omega) ?_
          refine Ev.goto (tgt := 2) dX5_talker_25 rfl ?_
          refine ih (k + 1) (by omega) ?_
          show (if tkf σ k = -4 then (if σ (300 + (18 * (k : Int) + 5)) = 1 then (k : Int) else -4) else tkf σ k) = -4
          rw [if_pos ht, if_neg (by omega)]
        · skip
          refine Ev.iload_n dX5_talker_20 rfl ?_
          refine Ev.int rfl dX5_talker_21 ?_
          refine ⟨?_, rfl⟩
          have e1 : tkf σ (k + 1) = (k : Int) := by
            show (if tkf σ k = -4 then (if σ (300 + (18 * (k : Int) + 5)) = 1 then (k : Int) else -4) else tkf σ k) = (k : Int)
            rw [if_pos ht, if_pos (by omega)]
          unfold m_talk
          rw [show (σ 2).toNat = (k + 1) + j by omega, tkf_stay (by rw [e1]; omega), e1]
  refine Ev.iconst dX5_talker_0 ⟨by decide, by decide⟩ ?_
  refine Ev.istore1 rfl dX5_talker_1 ?_
  exact loop (σ 2).toNat 0 (by omega) rfl
def m_pass (τ : ev_M) : ev_M := if 0 ≤ m_talk τ ∧ τ (300 + (18 * m_talk τ + 0)) = 2 ∧ m_talk τ ≠ τ 5 then ev_up (ev_up (ev_up τ 5 (m_talk τ)) (300 + (18 * m_talk τ + 5)) 0) 576 (τ 576 + 1) else τ
theorem s_X5_passes {σ : ev_M} (h2 : 0 ≤ σ 2) (h2' : σ 2 ≤ 6) (hs : ev_in (σ 576 + 1)) : Ev jX5_passes layM 0 [some (rv 0), none] [] σ (fun _ σ' => σ' = m_pass σ) := by
  unfold ev_in at hs
  have ht := m_talk_rng h2
  refine Ev.aload_n dX5_passes_0 rfl ?_
  refine Ev.Vi0 (I' := jX5_talker) ml_X5_117 dX5_passes_1 cyX5_talker lm_0 rfl (by decide) ⟨by decide, by decide⟩ (by simp) rfl rfl (s_X5_talker h2 h2') (fun r σ' hr1 hq => ?_)
  obtain ⟨rfl, hq⟩ := hq
  replace hq := hq.symm
  subst hq
  refine Ev.istore1 rfl dX5_passes_4 ?_
  refine Ev.iload_n dX5_passes_5 rfl ?_
  refine Ev.if_lt (tgt := 50) dX5_passes_6 rfl (fun c6 => ?_) (fun c6 => ?_)
  · skip
    refine Ev.vret dX5_passes_50 rfl ?_
    unfold m_pass
    first | rw [if_pos (by omega)] | rw [if_neg (by omega)]
  · skip
    refine Ev.aload_n dX5_passes_9 rfl ?_
    refine Ev.iload_n dX5_passes_10 rfl ?_
    refine Ev.iconst dX5_passes_11 ⟨by decide, by decide⟩ ?_
    refine Ev.Vi2 (I' := jX5_of) ml_X5_100 dX5_passes_12 cyX5_of lm_0 rfl (by decide) ⟨by decide, by decide⟩ (by simp) rfl rfl (s_X5_of (by omega) (by omega) (by decide) (by decide)) (fun r σ' hr12 hq => ?_)
    obtain ⟨rfl, hq⟩ := hq
    replace hq := hq.symm
    subst hq
    refine Ev.iconst dX5_passes_15 ⟨by decide, by decide⟩ ?_
    refine Ev.icmp_ne (tgt := 50) dX5_passes_16 rfl (fun c16 => ?_) (fun c16 => ?_)
    · skip
      refine Ev.vret dX5_passes_50 rfl ?_
      unfold m_pass
      first | rw [if_pos (by omega)] | rw [if_neg (by omega)]
    · skip
      refine Ev.iload_n dX5_passes_19 rfl ?_
      refine Ev.aload_n dX5_passes_20 rfl ?_
      refine Ev.geti (5) dX5_passes_21 fl_X5_51 lm_0 (by decide) rfl rfl ?_
      refine Ev.icmp_eq (tgt := 50) dX5_passes_24 rfl (fun c24 => ?_) (fun c24 => ?_)
      · skip
        refine Ev.vret dX5_passes_50 rfl ?_
        unfold m_pass
        first | rw [if_pos (by omega)] | rw [if_neg (by omega)]
      · skip
        refine Ev.aload_n dX5_passes_27 rfl ?_
        refine Ev.iload_n dX5_passes_28 rfl ?_
        refine Ev.puti (5) dX5_passes_29 fl_X5_51 ft_5_5 lm_0 (by decide) rfl rfl ?_
        refine Ev.aload_n dX5_passes_32 rfl ?_
        refine Ev.iload_n dX5_passes_33 rfl ?_
        refine Ev.iconst dX5_passes_34 ⟨by decide, by decide⟩ ?_
        refine Ev.iconst dX5_passes_35 ⟨by decide, by decide⟩ ?_
        refine Ev.Vv3 (I' := jX5_puts) ml_X5_47 dX5_passes_36 cyX5_puts lm_0 rfl (by decide) ⟨by decide, by decide⟩ (by simp) rfl rfl (s_X5_puts (by omega) (by omega) (by decide) (by decide)) (fun σ' hq => ?_)
        subst hq
        refine Ev.aload_n dX5_passes_39 rfl ?_
        refine Ev.getr (570) dX5_passes_40 fl_X5_19 lm_0 (by decide) rfl rfl ?_
        refine Ev.bipush dX5_passes_43 ⟨by decide, by decide⟩ (by decide) ?_
        refine Ev.dup2 dX5_passes_45 ?_
        refine Ev.ialdn (576) dX5_passes_46 lm_570 (Or.inl rfl) (by decide) (by decide) rfl ?_
        try simp (disch := omega) only [ev_up_ne, ev_up_eqs]
        refine Ev.iconst dX5_passes_47 ⟨by decide, by decide⟩ ?_
        refine Ev.iadd dX5_passes_48 (by unfold ev_in; omega) ?_
        refine Ev.iastn (576) dX5_passes_49 lm_570 (by decide) (by decide) rfl ?_
        refine Ev.vret dX5_passes_50 rfl ?_
        unfold m_pass
        first | rw [if_pos (by omega)] | rw [if_neg (by omega)]
def lsr (τ : ev_M) : Nat → Int
  | 0 => 0
  | k + 1 => ev_or (lsr τ k) (ev_shl (τ (300 + (18 * (k : Int) + 6))) (k : Int))
def m_lis (τ : ev_M) : Int := lsr τ (τ 2).toNat
theorem s_X5_listeners {σ : ev_M} (h2 : 0 ≤ σ 2) (h2' : σ 2 ≤ 6) : Ev jX5_listeners layM 0 [some (rv 0), none, none] [] σ (fun r σ' => r = m_lis σ ∧ σ' = σ) := by
  have loop : ∀ (j k : Nat), (k : Int) + j = σ 2 → Ev jX5_listeners layM 4 [some (rv 0), some (iv (lsr σ k)), some (iv (k : Int))] [] σ (fun r σ' => r = m_lis σ ∧ σ' = σ) := by
    intro j
    induction j with
    | zero =>
      intro k hk
      refine Ev.iload_n dX5_listeners_4 rfl ?_
      refine Ev.aload_n dX5_listeners_5 rfl ?_
      refine Ev.geti (2) dX5_listeners_6 fl_X5_44 lm_0 (by decide) rfl rfl ?_
      refine Ev.icmp_ge (tgt := 30) dX5_listeners_9 rfl (fun c9 => ?_) (fun c9 => ?_)
      · skip
        refine Ev.iload_n dX5_listeners_30 rfl ?_
        refine Ev.int rfl dX5_listeners_31 ?_
        refine ⟨?_, rfl⟩
        unfold m_lis
        rw [show (σ 2).toNat = k by omega]
      · skip
        exact absurd c9 (by omega)
    | succ j ih =>
      intro k hk
      refine Ev.iload_n dX5_listeners_4 rfl ?_
      refine Ev.aload_n dX5_listeners_5 rfl ?_
      refine Ev.geti (2) dX5_listeners_6 fl_X5_44 lm_0 (by decide) rfl rfl ?_
      refine Ev.icmp_ge (tgt := 30) dX5_listeners_9 rfl (fun c9 => ?_) (fun c9 => ?_)
      · skip
        exact absurd c9 (by omega)
      · skip
        refine Ev.iload_n dX5_listeners_12 rfl ?_
        refine Ev.aload_n dX5_listeners_13 rfl ?_
        refine Ev.iload_n dX5_listeners_14 rfl ?_
        refine Ev.bipush dX5_listeners_15 ⟨by decide, by decide⟩ (by decide) ?_
        refine Ev.Vi2 (I' := jX5_of) ml_X5_100 dX5_listeners_17 cyX5_of lm_0 rfl (by decide) ⟨by decide, by decide⟩ (by simp) rfl rfl (s_X5_of (by omega) (by omega) (by decide) (by decide)) (fun r σ' hr17 hq => ?_)
        obtain ⟨rfl, hq⟩ := hq
        replace hq := hq.symm
        subst hq
        refine Ev.iload_n dX5_listeners_20 rfl ?_
        refine Ev.ishl dX5_listeners_21 ?_
        refine Ev.ior dX5_listeners_22 ?_
        refine Ev.istore1 rfl dX5_listeners_23 ?_
        refine Ev.iinc2 dX5_listeners_24 (by unfold ev_in; omega) ?_
        refine Ev.goto (tgt := 4) dX5_listeners_27 rfl ?_
        exact ih (k + 1) (by omega)
  refine Ev.iconst dX5_listeners_0 ⟨by decide, by decide⟩ ?_
  refine Ev.istore1 rfl dX5_listeners_1 ?_
  refine Ev.iconst dX5_listeners_2 ⟨by decide, by decide⟩ ?_
  refine Ev.istore2 rfl dX5_listeners_3 ?_
  exact loop (σ 2).toNat 0 (by omega)
def slr (set : Int) (τ : ev_M) : Nat → Int
  | 0 => 0
  | k + 1 => if ev_and (ev_shr set (k : Int)) 1 = 1 ∧ slr set τ k < τ (300 + (18 * (k : Int) + 3)) then τ (300 + (18 * (k : Int) + 3)) else slr set τ k
def m_slow (set : Int) (τ : ev_M) : Int := slr set τ (τ 2).toNat
theorem slr_rng {set b : Int} {τ : ev_M} (h : MI b τ) : ∀ k : Nat, k ≤ 6 → 0 ≤ slr set τ k ∧ slr set τ k ≤ 9
  | 0, _ => ⟨Int.le_refl 0, show (0 : Int) ≤ 9 by decide⟩
  | k + 1, hk => by
    have := slr_rng (set := set) h k (by omega)
    have h3 := h.h3 (d := (k : Int)) (by omega) (by omega)
    show 0 ≤ (if ev_and (ev_shr set (k : Int)) 1 = 1 ∧ slr set τ k < τ (300 + (18 * (k : Int) + 3)) then τ (300 + (18 * (k : Int) + 3)) else slr set τ k) ∧ (if ev_and (ev_shr set (k : Int)) 1 = 1 ∧ slr set τ k < τ (300 + (18 * (k : Int) + 3)) then τ (300 + (18 * (k : Int) + 3)) else slr set τ k) ≤ 9
    split <;> omega
theorem m_slow_rng {set b : Int} {τ : ev_M} (h : MI b τ) : 0 ≤ m_slow set τ ∧ m_slow set τ ≤ 9 := slr_rng h _ (by have := h.s2; omega)
theorem s_X5_slowest {set : Int} {σ : ev_M} (h2 : 0 ≤ σ 2) (h2' : σ 2 ≤ 6) : Ev jX5_slowest layM 0 [some (rv 0), some (iv set), none, none] [] σ (fun r σ' => r = m_slow set σ ∧ σ' = σ) := by
  have loop : ∀ (j k : Nat), (k : Int) + j = σ 2 → Ev jX5_slowest layM 4 [some (rv 0), some (iv set), some (iv (slr set σ k)), some (iv (k : Int))] [] σ (fun r σ' => r = m_slow set σ ∧ σ' = σ) := by
    intro j
    induction j with
    | zero =>
      intro k hk
      refine Ev.iload_n dX5_slowest_4 rfl ?_
      refine Ev.aload_n dX5_slowest_5 rfl ?_
      refine Ev.geti (2) dX5_slowest_6 fl_X5_44 lm_0 (by decide) rfl rfl ?_
      refine Ev.icmp_ge (tgt := 48) dX5_slowest_9 rfl (fun c9 => ?_) (fun c9 => ?_)
      · skip
        refine Ev.iload_n dX5_slowest_48 rfl ?_
        refine Ev.int rfl dX5_slowest_49 ?_
        refine ⟨?_, rfl⟩
        unfold m_slow
        rw [show (σ 2).toNat = k by omega]
      · skip
        exact absurd c9 (by omega)
    | succ j ih =>
      intro k hk
      refine Ev.iload_n dX5_slowest_4 rfl ?_
      refine Ev.aload_n dX5_slowest_5 rfl ?_
      refine Ev.geti (2) dX5_slowest_6 fl_X5_44 lm_0 (by decide) rfl rfl ?_
      refine Ev.icmp_ge (tgt := 48) dX5_slowest_9 rfl (fun c9 => ?_) (fun c9 => ?_)
      · skip
        exact absurd c9 (by omega)
      · skip
        refine Ev.iload_n dX5_slowest_12 rfl ?_
        refine Ev.iload_n dX5_slowest_13 rfl ?_
        refine Ev.ishr dX5_slowest_14 ?_
        refine Ev.iconst dX5_slowest_15 ⟨by decide, by decide⟩ ?_
        refine Ev.iand dX5_slowest_16 ?_
        refine Ev.iconst dX5_slowest_17 ⟨by decide, by decide⟩ ?_
        refine Ev.icmp_ne (tgt := 40) dX5_slowest_18 rfl (fun c18 => ?_) (fun c18 => ?_)
        · skip
          refine Ev.iload_n dX5_slowest_40 rfl ?_
          refine Ev.istore2 rfl dX5_slowest_41 ?_
          refine Ev.iinc3 dX5_slowest_42 (by unfold ev_in; omega) ?_
          refine Ev.goto (tgt := 4) dX5_slowest_45 rfl ?_
          have := ih (k + 1) (by omega)
          rw [show slr set σ (k + 1) = (if ev_and (ev_shr set (k : Int)) 1 = 1 ∧ slr set σ k < σ (300 + (18 * (k : Int) + 3)) then σ (300 + (18 * (k : Int) + 3)) else slr set σ k) from rfl] at this
          first | rw [if_pos (by omega)] at this | rw [if_neg (by omega)] at this
          exact this
        · skip
          refine Ev.aload_n dX5_slowest_21 rfl ?_
          refine Ev.iload_n dX5_slowest_22 rfl ?_
          refine Ev.iconst dX5_slowest_23 ⟨by decide, by decide⟩ ?_
          refine Ev.Vi2 (I' := jX5_of) ml_X5_100 dX5_slowest_24 cyX5_of lm_0 rfl (by decide) ⟨by decide, by decide⟩ (by simp) rfl rfl (s_X5_of (by omega) (by omega) (by decide) (by decide)) (fun r σ' hr24 hq => ?_)
          obtain ⟨rfl, hq⟩ := hq
          replace hq := hq.symm
          subst hq
          refine Ev.iload_n dX5_slowest_27 rfl ?_
          refine Ev.icmp_le (tgt := 40) dX5_slowest_28 rfl (fun c28 => ?_) (fun c28 => ?_)
          · skip
            refine Ev.iload_n dX5_slowest_40 rfl ?_
            refine Ev.istore2 rfl dX5_slowest_41 ?_
            refine Ev.iinc3 dX5_slowest_42 (by unfold ev_in; omega) ?_
            refine Ev.goto (tgt := 4) dX5_slowest_45 rfl ?_
            have := ih (k + 1) (by omega)
            rw [show slr set σ (k + 1) = (if ev_and (ev_shr set (k : Int)) 1 = 1 ∧ slr set σ k < σ (300 + (18 * (k : Int) + 3)) then σ (300 + (18 * (k : Int) + 3)) else slr set σ k) from rfl] at this
            first | rw [if_pos (by omega)] at this | rw [if_neg (by omega)] at this
            exact this
          · skip
            refine Ev.aload_n dX5_slowest_31 rfl ?_
            refine Ev.iload_n dX5_slowest_32 rfl ?_
            refine Ev.iconst dX5_slowest_33 ⟨by decide, by decide⟩ ?_
            refine Ev.Vi2 (I' := jX5_of) ml_X5_100 dX5_slowest_34 cyX5_of lm_0 rfl (by decide) ⟨by decide, by decide⟩ (by simp) rfl rfl (s_X5_of (by omega) (by omega) (by decide) (by decide)) (fun r σ' hr34 hq => ?_)
            obtain ⟨rfl, hq⟩ := hq
            replace hq := hq.symm
            subst hq
            refine Ev.goto (tgt := 41) dX5_slowest_37 rfl ?_
            refine Ev.istore2 rfl dX5_slowest_41 ?_
            refine Ev.iinc3 dX5_slowest_42 (by unfold ev_in; omega) ?_
            refine Ev.goto (tgt := 4) dX5_slowest_45 rfl ?_
            have := ih (k + 1) (by omega)
            rw [show slr set σ (k + 1) = (if ev_and (ev_shr set (k : Int)) 1 = 1 ∧ slr set σ k < σ (300 + (18 * (k : Int) + 3)) then σ (300 + (18 * (k : Int) + 3)) else slr set σ k) from rfl] at this
            first | rw [if_pos (by omega)] at this | rw [if_neg (by omega)] at this
            exact this
  refine Ev.iconst dX5_slowest_0 ⟨by decide, by decide⟩ ?_
  refine Ev.istore2 rfl dX5_slowest_1 ?_
  refine Ev.iconst dX5_slowest_2 ⟨by decide, by decide⟩ ?_
  refine Ev.istore3 rfl dX5_slowest_3 ?_
  exact loop (σ 2).toNat 0 (by omega)
def m_rdg (d : Int) (τ : ev_M) : Int := (7 * τ (300 + (18 * d + 13)) + 3 * τ (300 + (18 * d + 1))) % 100
def m_cm (d : Int) (τ : ev_M) : ev_M := if τ (300 + (18 * d + 14)) = τ 7 then ev_up (ev_up (ev_up (ev_up (ev_up (ev_up (ev_up τ (420 + 24 * d) (48 + m_rdg d τ / 10)) (420 + (24 * d + 1)) (48 + m_rdg d τ % 10)) (300 + (18 * d + 15)) 2) (300 + (18 * d + 9)) 16) (300 + (18 * d + 10)) 1) (300 + (18 * d + 14)) (-4)) 573 (τ 573 + 1) else τ
theorem MI.cm {b d : Int} {τ : ev_M} (h : MI b τ) (h0 : 0 ≤ d) (h1 : d < 6) : MI (b + 1) (m_cm d τ) := by
  have h13 := h.h13 h0 h1
  have hh1 := h.h1 h0 h1
  have h573 := h.sum (n := 573) (by decide) (by decide)
  have hb := h.mono (show b ≤ b + 1 by omega)
  have hv : 0 ≤ m_rdg d τ ∧ m_rdg d τ < 100 := by unfold m_rdg; omega
  unfold m_cm
  split
  · exact ((((((hb.ufree (by omega) (by unfold ev_in; omega)).ufree (by omega) (by unfold ev_in; omega)).u15 h0 h1 (by decide) (by decide)).u9 h0 h1 (by decide) (by decide)).u10 h0 h1 (by decide) (by decide)).u14 h0 h1 (by decide) (by have := h.s7; omega)).usum (by decide) (by decide) (by omega) (by omega)
  · exact hb
theorem m_cm_o {d n : Int} {τ : ev_M} (h0 : 0 ≤ d) (h1 : d < 6) (hn : n < 300) : m_cm d τ n = τ n := by
  unfold m_cm
  split
  · simp (disch := omega) only [ev_up_ne]
  · rfl
theorem s_X5_comes {b : Int} {v2 : Option ev_V} {σ : ev_M} (hM : MI b σ) (hb : b ≤ 1000000000) (h2 : 0 ≤ σ 2) (h2' : σ 2 ≤ 6) : Ev jX5_comes layM 0 [some (rv 0), none, v2] [] σ (fun _ σ' => σ' = it m_cm σ (σ 2).toNat) := by
  have loop : ∀ (j k : Nat) (ρ : ev_M) (v2 : Option ev_V), (k : Int) + j = σ 2 → ρ = it m_cm σ k → Ev jX5_comes layM 2 [some (rv 0), some (iv (k : Int)), v2] [] ρ (fun _ σ' => σ' = it m_cm σ (σ 2).toNat) := by
    intro j
    induction j with
    | zero =>
      intro k ρ v2 hk hρ
      have e2 : ρ 2 = σ 2 := by rw [hρ]; exact it_at' k (fun i σ hi => m_cm_o (by omega) (by omega) (by decide))
      refine Ev.iload_n dX5_comes_2 rfl ?_
      refine Ev.aload_n dX5_comes_3 rfl ?_
      refine Ev.geti (2) dX5_comes_4 fl_X5_44 lm_0 (by decide) rfl rfl ?_
      refine Ev.icmp_ge (tgt := 131) dX5_comes_7 rfl (fun c7 => ?_) (fun c7 => ?_)
      · skip
        refine Ev.vret dX5_comes_131 rfl ?_
        rw [hρ, show (σ 2).toNat = k by omega]
      · skip
        exact absurd c7 (by omega)
    | succ j ih =>
      intro k ρ v2 hk hρ
      have e2 : ρ 2 = σ 2 := by rw [hρ]; exact it_at' k (fun i σ hi => m_cm_o (by omega) (by omega) (by decide))
      have hMk := it_MI (s := 1) (fun i b τ hi h => h.cm (by omega) (by omega)) hM k (by omega)
      rw [← hρ] at hMk
      have a13 := hMk.h13 (d := (k : Int)) (by omega) (by omega)
      have a1 := hMk.h1 (d := (k : Int)) (by omega) (by omega)
      have a573 := hMk.sum (n := 573) (by decide) (by decide)
      have e7 : ρ 7 = σ 7 := by rw [hρ]; exact it_at' k (fun i σ hi => m_cm_o (by omega) (by omega) (by decide))
      refine Ev.iload_n dX5_comes_2 rfl ?_
      refine Ev.aload_n dX5_comes_3 rfl ?_
      refine Ev.geti (2) dX5_comes_4 fl_X5_44 lm_0 (by decide) rfl rfl ?_
      refine Ev.icmp_ge (tgt := 131) dX5_comes_7 rfl (fun c7 => ?_) (fun c7 => ?_)
      · skip
        exact absurd c7 (by omega)
      · skip
        refine Ev.aload_n dX5_comes_10 rfl ?_
        refine Ev.iload_n dX5_comes_11 rfl ?_
        refine Ev.bipush dX5_comes_12 ⟨by decide, by decide⟩ (by decide) ?_
        refine Ev.Vi2 (I' := jX5_of) ml_X5_100 dX5_comes_14 cyX5_of lm_0 rfl (by decide) ⟨by decide, by decide⟩ (by simp) rfl rfl (s_X5_of (by omega) (by omega) (by decide) (by decide)) (fun r σ' hr14 hq => ?_)
        obtain ⟨rfl, hq⟩ := hq
        replace hq := hq.symm
        subst hq
        refine Ev.aload_n dX5_comes_17 rfl ?_
        refine Ev.geti (7) dX5_comes_18 fl_X5_57 lm_0 (by decide) rfl rfl ?_
        refine Ev.icmp_ne (tgt := 125) dX5_comes_21 rfl (fun c21 => ?_) (fun c21 => ?_)
        · skip
          refine Ev.iinc1 dX5_comes_125 (by unfold ev_in; omega) ?_
          refine Ev.goto (tgt := 2) dX5_comes_128 rfl ?_
          refine ih (k + 1) _ _ (by omega) ?_
          rw [show it m_cm σ (k + 1) = m_cm (k : Int) (it m_cm σ k) from rfl, ← hρ]
          unfold m_cm m_rdg
          first | (exfalso; omega) | rfl | (repeat (first | rw [if_pos (by omega)] | rw [if_neg (by omega)]))
        · skip
          refine Ev.bipush dX5_comes_24 ⟨by decide, by decide⟩ (by decide) ?_
          refine Ev.aload_n dX5_comes_26 rfl ?_
          refine Ev.iload_n dX5_comes_27 rfl ?_
          refine Ev.bipush dX5_comes_28 ⟨by decide, by decide⟩ (by decide) ?_
          refine Ev.Vi2 (I' := jX5_of) ml_X5_100 dX5_comes_30 cyX5_of lm_0 rfl (by decide) ⟨by decide, by decide⟩ (by simp) rfl rfl (s_X5_of (by omega) (by omega) (by decide) (by decide)) (fun r σ' hr30 hq => ?_)
          obtain ⟨rfl, hq⟩ := hq
          replace hq := hq.symm
          subst hq
          refine Ev.imul dX5_comes_33 (by unfold ev_in; omega) ?_
          refine Ev.iconst dX5_comes_34 ⟨by decide, by decide⟩ ?_
          refine Ev.aload_n dX5_comes_35 rfl ?_
          refine Ev.iload_n dX5_comes_36 rfl ?_
          refine Ev.iconst dX5_comes_37 ⟨by decide, by decide⟩ ?_
          refine Ev.Vi2 (I' := jX5_of) ml_X5_100 dX5_comes_38 cyX5_of lm_0 rfl (by decide) ⟨by decide, by decide⟩ (by simp) rfl rfl (s_X5_of (by omega) (by omega) (by decide) (by decide)) (fun r σ' hr38 hq => ?_)
          obtain ⟨rfl, hq⟩ := hq
          replace hq := hq.symm
          subst hq
          refine Ev.imul dX5_comes_41 (by unfold ev_in; omega) ?_
          refine Ev.iadd dX5_comes_42 (by unfold ev_in; omega) ?_
          refine Ev.bipush dX5_comes_43 ⟨by decide, by decide⟩ (by decide) ?_
          refine Ev.irem dX5_comes_45 (by omega) (by decide) ?_
          refine Ev.istore2 rfl dX5_comes_46 ?_
          refine Ev.aload_n dX5_comes_47 rfl ?_
          refine Ev.getr (420) dX5_comes_48 fl_X5_16 lm_0 (by decide) rfl rfl ?_
          refine Ev.bipush dX5_comes_51 ⟨by decide, by decide⟩ (by decide) ?_
          refine Ev.iload_n dX5_comes_53 rfl ?_
          refine Ev.imul dX5_comes_54 (by unfold ev_in; omega) ?_
          refine Ev.bipush dX5_comes_55 ⟨by decide, by decide⟩ (by decide) ?_
          refine Ev.iload_n dX5_comes_57 rfl ?_
          refine Ev.bipush dX5_comes_58 ⟨by decide, by decide⟩ (by decide) ?_
          refine Ev.idiv dX5_comes_60 (by omega) (by decide) ?_
          refine Ev.iadd dX5_comes_61 (by unfold ev_in; omega) ?_
          refine Ev.iast dX5_comes_62 lm_420 (by omega) (by omega) ?_
          refine Ev.aload_n dX5_comes_63 rfl ?_
          refine Ev.getr (420) dX5_comes_64 fl_X5_16 lm_0 (by decide) rfl rfl ?_
          refine Ev.bipush dX5_comes_67 ⟨by decide, by decide⟩ (by decide) ?_
          refine Ev.iload_n dX5_comes_69 rfl ?_
          refine Ev.imul dX5_comes_70 (by unfold ev_in; omega) ?_
          refine Ev.iconst dX5_comes_71 ⟨by decide, by decide⟩ ?_
          refine Ev.iadd dX5_comes_72 (by unfold ev_in; omega) ?_
          refine Ev.bipush dX5_comes_73 ⟨by decide, by decide⟩ (by decide) ?_
          refine Ev.iload_n dX5_comes_75 rfl ?_
          refine Ev.bipush dX5_comes_76 ⟨by decide, by decide⟩ (by decide) ?_
          refine Ev.irem dX5_comes_78 (by omega) (by decide) ?_
          refine Ev.iadd dX5_comes_79 (by unfold ev_in; omega) ?_
          refine Ev.iast dX5_comes_80 lm_420 (by omega) (by omega) ?_
          refine Ev.aload_n dX5_comes_81 rfl ?_
          refine Ev.iload_n dX5_comes_82 rfl ?_
          refine Ev.bipush dX5_comes_83 ⟨by decide, by decide⟩ (by decide) ?_
          refine Ev.iconst dX5_comes_85 ⟨by decide, by decide⟩ ?_
          refine Ev.Vv3 (I' := jX5_puts) ml_X5_47 dX5_comes_86 cyX5_puts lm_0 rfl (by decide) ⟨by decide, by decide⟩ (by simp) rfl rfl (s_X5_puts (by omega) (by omega) (by decide) (by decide)) (fun σ' hq => ?_)
          subst hq
          refine Ev.aload_n dX5_comes_89 rfl ?_
          refine Ev.iload_n dX5_comes_90 rfl ?_
          refine Ev.bipush dX5_comes_91 ⟨by decide, by decide⟩ (by decide) ?_
          refine Ev.bipush dX5_comes_93 ⟨by decide, by decide⟩ (by decide) ?_
          refine Ev.Vv3 (I' := jX5_puts) ml_X5_47 dX5_comes_95 cyX5_puts lm_0 rfl (by decide) ⟨by decide, by decide⟩ (by simp) rfl rfl (s_X5_puts (by omega) (by omega) (by decide) (by decide)) (fun σ' hq => ?_)
          subst hq
          refine Ev.aload_n dX5_comes_98 rfl ?_
          refine Ev.iload_n dX5_comes_99 rfl ?_
          refine Ev.bipush dX5_comes_100 ⟨by decide, by decide⟩ (by decide) ?_
          refine Ev.iconst dX5_comes_102 ⟨by decide, by decide⟩ ?_
          refine Ev.Vv3 (I' := jX5_puts) ml_X5_47 dX5_comes_103 cyX5_puts lm_0 rfl (by decide) ⟨by decide, by decide⟩ (by simp) rfl rfl (s_X5_puts (by omega) (by omega) (by decide) (by decide)) (fun σ' hq => ?_)
          subst hq
          refine Ev.aload_n dX5_comes_106 rfl ?_
          refine Ev.iload_n dX5_comes_107 rfl ?_
          refine Ev.bipush dX5_comes_108 ⟨by decide, by decide⟩ (by decide) ?_
          refine Ev.bipush dX5_comes_110 ⟨by decide, by decide⟩ (by decide) ?_
          refine Ev.Vv3 (I' := jX5_puts) ml_X5_47 dX5_comes_112 cyX5_puts lm_0 rfl (by decide) ⟨by decide, by decide⟩ (by simp) rfl rfl (s_X5_puts (by omega) (by omega) (by decide) (by decide)) (fun σ' hq => ?_)
          subst hq
          refine Ev.aload_n dX5_comes_115 rfl ?_
          refine Ev.getr (570) dX5_comes_116 fl_X5_19 lm_0 (by decide) rfl rfl ?_
          refine Ev.iconst dX5_comes_119 ⟨by decide, by decide⟩ ?_
          refine Ev.dup2 dX5_comes_120 ?_
          refine Ev.ialdn (573) dX5_comes_121 lm_570 (Or.inl rfl) (by decide) (by decide) rfl ?_
          try simp (disch := omega) only [ev_up_ne, ev_up_eqs]
          refine Ev.iconst dX5_comes_122 ⟨by decide, by decide⟩ ?_
          refine Ev.iadd dX5_comes_123 (by unfold ev_in; omega) ?_
          refine Ev.iastn (573) dX5_comes_124 lm_570 (by decide) (by decide) rfl ?_
          refine Ev.iinc1 dX5_comes_125 (by unfold ev_in; omega) ?_
          refine Ev.goto (tgt := 2) dX5_comes_128 rfl ?_
          refine ih (k + 1) _ _ (by omega) ?_
          rw [show it m_cm σ (k + 1) = m_cm (k : Int) (it m_cm σ k) from rfl, ← hρ]
          unfold m_cm m_rdg
          first | (exfalso; omega) | rfl | (repeat (first | rw [if_pos (by omega)] | rw [if_neg (by omega)]))
  refine Ev.iconst dX5_comes_0 ⟨by decide, by decide⟩ ?_
  refine Ev.istore1 rfl dX5_comes_1 ?_
  exact loop (σ 2).toNat 0 σ _ (by omega) rfl
