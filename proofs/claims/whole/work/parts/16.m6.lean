/-! the reference: bytes given, polls -/
theorem bt_or0 : ∀ (k : Fin 6) (a : Fin 64) (b : Fin 2), (a : Nat) < 2 ^ (k : Nat) → ev_or ((a : Nat) : Int) (ev_shl ((b : Nat) : Int) ((k : Nat) : Int)) = ((a : Nat) : Int) + ((b : Nat) : Int) * 2 ^ (k : Nat) := by decide +kernel
theorem pw_le : ∀ k : Nat, k ≤ 6 → (2 : Int) ^ k ≤ 64 := by
  intro k hk
  have : ∀ k : Fin 7, (2 : Int) ^ (k : Nat) ≤ 64 := by decide
  exact this ⟨k, by omega⟩
theorem bt_or {k : Nat} {a v : Int} (hk : k < 6) (h0 : 0 ≤ a) (h1 : a < 2 ^ k) (hv : v = 0 ∨ v = 1) : ev_or a (ev_shl v (k : Int)) = a + v * 2 ^ k := by
  have h64 := pw_le k (by omega)
  have hN : ((2 ^ k : Nat) : Int) = (2 : Int) ^ k := by simp
  have h := bt_or0 ⟨k, hk⟩ ⟨a.toNat, by omega⟩ ⟨v.toNat, by omega⟩ (by show a.toNat < 2 ^ k; omega)
  simp only at h
  rw [show ((a.toNat : Nat) : Int) = a by omega, show ((v.toNat : Nat) : Int) = v by omega] at h
  exact h
theorem lsr_rng {b : Int} {τ : ev_M} (h : MI b τ) : ∀ k : Nat, k ≤ 6 → 0 ≤ lsr τ k ∧ lsr τ k < 2 ^ k
  | 0, _ => ⟨Int.le_refl 0, show (0 : Int) < 1 by decide⟩
  | k + 1, hk => by
    have ih := lsr_rng h k (by omega)
    have h6 := h.h6 (d := (k : Int)) (by omega) (by omega)
    show 0 ≤ ev_or (lsr τ k) (ev_shl (τ (300 + (18 * (k : Int) + 6))) (k : Int)) ∧ ev_or (lsr τ k) (ev_shl (τ (300 + (18 * (k : Int) + 6))) (k : Int)) < 2 ^ (k + 1)
    rw [bt_or (by omega) ih.1 ih.2 (by omega), Int.pow_succ]
    have hp : (0 : Int) < 2 ^ k := Int.pow_pos (by decide)
    rcases (show τ (300 + (18 * (k : Int) + 6)) = 0 ∨ τ (300 + (18 * (k : Int) + 6)) = 1 by omega) with e | e <;> rw [e] <;> omega
theorem m_lis_rng {b : Int} {τ : ev_M} (h : MI b τ) : 0 ≤ m_lis τ ∧ m_lis τ ≤ 63 := by
  have h1 := lsr_rng h _ h.nat2
  have h2 := pw_le _ h.nat2
  unfold m_lis
  omega
theorem MI.sends' {b c : Int} {τ : ev_M} (h : MI b τ) (hb : b ≤ 800000000) (hc0 : 0 ≤ c) (hc1 : c ≤ 127) : MI (b + 76) (m_sends c τ) := h.sends hb hc0 hc1 (fun _ _ h => m_lis_rng h)
theorem m_cm_w {d e w : Int} {τ : ev_M} (h0 : 0 ≤ d) (h1 : d < 6) (e0 : 0 ≤ e) (e1 : e < 6) (w0 : 0 ≤ w) (w1 : w < 18) (hw : w ≠ 9 ∧ w ≠ 10 ∧ w ≠ 14 ∧ w ≠ 15) : m_cm d τ (300 + (18 * e + w)) = τ (300 + (18 * e + w)) := by
  unfold m_cm
  split
  · simp (disch := omega) only [ev_up_ne]
  · rfl
theorem m_cm_15 {d e : Int} {τ : ev_M} (h0 : 0 ≤ d) (h1 : d < 6) (e0 : 0 ≤ e) (e1 : e < 6) (h : 1 ≤ τ (300 + (18 * e + 15))) : 1 ≤ m_cm d τ (300 + (18 * e + 15)) := by
  unfold m_cm
  split
  · by_cases hde : e = d
    · subst hde
      simp (disch := omega) only [ev_up_ne, ev_up_eqs]
      decide
    · simp (disch := omega) only [ev_up_ne]
      exact h
  · exact h
theorem m_ticks_w {b e w : Int} {τ : ev_M} (h : MI b τ) (e0 : 0 ≤ e) (e1 : e < 6) (w0 : 0 ≤ w) (w1 : w < 18) (hw : w ≠ 9 ∧ w ≠ 10 ∧ w ≠ 14 ∧ w ≠ 15) : ∀ k : Nat, m_ticks τ k (300 + (18 * e + w)) = τ (300 + (18 * e + w))
  | 0 => rfl
  | k + 1 => by
    show m_comes (ev_up (m_ticks τ k) 7 (m_ticks τ k 7 + 1)) (300 + (18 * e + w)) = _
    have hn := (h.ticks k).now1.nat2
    unfold m_comes
    rw [it_at' _ (fun i σ hi => m_cm_w (by omega) (by omega) e0 e1 w0 w1 hw), ev_up_ne (by omega), m_ticks_w h e0 e1 w0 w1 hw k]
theorem it_cm_15 {e : Int} {τ : ev_M} (e0 : 0 ≤ e) (e1 : e < 6) (h : 1 ≤ τ (300 + (18 * e + 15))) : ∀ k : Nat, k ≤ 6 → 1 ≤ it m_cm τ k (300 + (18 * e + 15))
  | 0, _ => h
  | k + 1, hk => m_cm_15 (by omega) (by omega) e0 e1 (it_cm_15 e0 e1 h k (by omega))
theorem m_ticks_15 {b e : Int} {τ : ev_M} (hM : MI b τ) (e0 : 0 ≤ e) (e1 : e < 6) (h : 1 ≤ τ (300 + (18 * e + 15))) : ∀ k : Nat, 1 ≤ m_ticks τ k (300 + (18 * e + 15))
  | 0 => h
  | k + 1 => by
    show 1 ≤ m_comes (ev_up (m_ticks τ k) 7 (m_ticks τ k 7 + 1)) (300 + (18 * e + 15))
    exact it_cm_15 e0 e1 (by rw [ev_up_ne (by omega)]; exact m_ticks_15 hM e0 e1 h k) _ (hM.ticks k).now1.nat2
def m_sh (lo k : Int) (τ : ev_M) : ev_M := fun n => if lo ≤ n ∧ n < lo + k then τ (n + 1) else τ n
theorem sh_s {lo k : Int} {τ : ev_M} (hk : 0 ≤ k) : ev_up (m_sh lo k τ) (lo + k) (τ (lo + k + 1)) = m_sh lo (k + 1) τ := by
  funext n
  by_cases h1 : n = lo + k
  · rw [ev_up_eqs h1]; unfold m_sh; rw [if_pos (by omega), h1]
  · rw [ev_up_ne h1]
    unfold m_sh
    by_cases h2 : lo ≤ n ∧ n < lo + k
    · rw [if_pos h2, if_pos (by omega)]
    · rw [if_neg h2, if_neg (by omega)]
theorem sh_o {lo k n : Int} {τ : ev_M} (h : n < lo ∨ lo + k ≤ n) : m_sh lo k τ n = τ n := by unfold m_sh; rw [if_neg (by omega)]
theorem sh_0 {lo : Int} {τ : ev_M} : m_sh lo 0 τ = τ := by funext n; exact sh_o (by omega)
theorem MI.sh {b lo k : Int} {τ : ev_M} (h : MI b τ) (h0 : 420 ≤ lo) (h1 : lo + k < 564) : MI b (m_sh lo k τ) := by
  have fr : ∀ n, 420 ≤ n → n < 564 → mlo n = -2147483648 ∧ mhi b n = 2147483647 := by
    intro n a1 a2
    constructor
    · unfold mlo
      repeat' split
      all_goals omega
    · unfold mhi
      repeat' split
      all_goals omega
  intro n
  unfold m_sh
  split
  · have e1 := fr n (by omega) (by omega)
    have e2 := fr (n + 1) (by omega) (by omega)
    have := h (n + 1)
    rw [e2.1, e2.2] at this
    rw [e1.1, e1.2]
    exact this
  · exact h n
def m_first (d row many : Int) (τ : ev_M) : ev_M := m_sh (420 + (24 * d + row)) (τ (300 + (18 * d + many)) - 1) (ev_up τ (300 + (18 * d + many)) (τ (300 + (18 * d + many)) - 1))
theorem s_X5_firstOf {d row many : Int} {σ : ev_M} (hd0 : 0 ≤ d) (hd : d < 6) (hrw : row = 0 ∨ row = 12) (hm : many = 15 ∨ many = 16) (h1 : 1 ≤ σ (300 + (18 * d + many))) (h12 : σ (300 + (18 * d + many)) ≤ 12) : Ev jX5_firstOf layM 0 [some (rv 0), some (iv d), some (iv row), some (iv many), none, none] [] σ (fun r σ' => r = σ (420 + (24 * d + row)) ∧ σ' = m_first d row many σ) := by
  have loop : ∀ (j k : Nat) (ρ : ev_M), (k : Int) + j = σ (300 + (18 * d + many)) - 1 → ρ = m_sh (420 + (24 * d + row)) (k : Int) (ev_up σ (300 + (18 * d + many)) (σ (300 + (18 * d + many)) - 1)) → Ev jX5_firstOf layM 30 [some (rv 0), some (iv d), some (iv row), some (iv many), some (iv (σ (420 + (24 * d + row)))), some (iv (k : Int))] [] ρ (fun r σ' => r = σ (420 + (24 * d + row)) ∧ σ' = m_first d row many σ) := by
    intro j
    induction j with
    | zero =>
      intro k ρ hk hρ
      have em : ρ (300 + (18 * d + many)) = σ (300 + (18 * d + many)) - 1 := by rw [hρ, sh_o (by omega), ev_up_eq]
      refine Ev.iload dX5_firstOf_30 rfl ?_
      refine Ev.aload_n dX5_firstOf_32 rfl ?_
      refine Ev.iload_n dX5_firstOf_33 rfl ?_
      refine Ev.iload_n dX5_firstOf_34 rfl ?_
      refine Ev.Vi2 (I' := jX5_of) ml_X5_100 dX5_firstOf_35 cyX5_of lm_0 rfl (by decide) ⟨by decide, by decide⟩ (by simp) rfl rfl (s_X5_of hd0 hd (by omega) (by omega)) (fun r σ' hr35 hq => ?_)
      obtain ⟨rfl, hq⟩ := hq
      replace hq := hq.symm
      subst hq
      refine Ev.icmp_ge (tgt := 77) dX5_firstOf_38 rfl (fun c38 => ?_) (fun c38 => ?_)
      · skip
        refine Ev.iload dX5_firstOf_77 rfl ?_
        refine Ev.int rfl dX5_firstOf_79 ?_
        refine ⟨rfl, ?_⟩
        unfold m_first
        rw [hρ, show σ (300 + (18 * d + many)) - 1 = (k : Int) by omega]
      · skip
        exact absurd c38 (by omega)
    | succ j ih =>
      intro k ρ hk hρ
      have em : ρ (300 + (18 * d + many)) = σ (300 + (18 * d + many)) - 1 := by rw [hρ, sh_o (by omega), ev_up_eq]
      have er : ρ (420 + (24 * d + row + (k : Int) + 1)) = ev_up σ (300 + (18 * d + many)) (σ (300 + (18 * d + many)) - 1) (420 + (24 * d + row) + (k : Int) + 1) := by rw [hρ, sh_o (by omega)]; congr 1; omega
      refine Ev.iload dX5_firstOf_30 rfl ?_
      refine Ev.aload_n dX5_firstOf_32 rfl ?_
      refine Ev.iload_n dX5_firstOf_33 rfl ?_
      refine Ev.iload_n dX5_firstOf_34 rfl ?_
      refine Ev.Vi2 (I' := jX5_of) ml_X5_100 dX5_firstOf_35 cyX5_of lm_0 rfl (by decide) ⟨by decide, by decide⟩ (by simp) rfl rfl (s_X5_of hd0 hd (by omega) (by omega)) (fun r σ' hr35 hq => ?_)
      obtain ⟨rfl, hq⟩ := hq
      replace hq := hq.symm
      subst hq
      refine Ev.icmp_ge (tgt := 77) dX5_firstOf_38 rfl (fun c38 => ?_) (fun c38 => ?_)
      · skip
        exact absurd c38 (by omega)
      · skip
        refine Ev.aload_n dX5_firstOf_41 rfl ?_
        refine Ev.getr (420) dX5_firstOf_42 fl_X5_16 lm_0 (by decide) rfl rfl ?_
        refine Ev.bipush dX5_firstOf_45 ⟨by decide, by decide⟩ (by decide) ?_
        refine Ev.iload_n dX5_firstOf_47 rfl ?_
        refine Ev.imul dX5_firstOf_48 (by unfold ev_in; omega) ?_
        refine Ev.iload_n dX5_firstOf_49 rfl ?_
        refine Ev.iadd dX5_firstOf_50 (by unfold ev_in; omega) ?_
        refine Ev.iload dX5_firstOf_51 rfl ?_
        refine Ev.iadd dX5_firstOf_53 (by unfold ev_in; omega) ?_
        refine Ev.aload_n dX5_firstOf_54 rfl ?_
        refine Ev.getr (420) dX5_firstOf_55 fl_X5_16 lm_0 (by decide) rfl rfl ?_
        refine Ev.bipush dX5_firstOf_58 ⟨by decide, by decide⟩ (by decide) ?_
        refine Ev.iload_n dX5_firstOf_60 rfl ?_
        refine Ev.imul dX5_firstOf_61 (by unfold ev_in; omega) ?_
        refine Ev.iload_n dX5_firstOf_62 rfl ?_
        refine Ev.iadd dX5_firstOf_63 (by unfold ev_in; omega) ?_
        refine Ev.iload dX5_firstOf_64 rfl ?_
        refine Ev.iadd dX5_firstOf_66 (by unfold ev_in; omega) ?_
        refine Ev.iconst dX5_firstOf_67 ⟨by decide, by decide⟩ ?_
        refine Ev.iadd dX5_firstOf_68 (by unfold ev_in; omega) ?_
        refine Ev.iald dX5_firstOf_69 lm_420 (Or.inl rfl) (by omega) (by omega) ?_
        refine Ev.iast dX5_firstOf_70 lm_420 (by omega) (by omega) ?_
        refine Ev.iinc5 dX5_firstOf_71 (by unfold ev_in; omega) ?_
        refine Ev.goto (tgt := 30) dX5_firstOf_74 rfl ?_
        refine ih (k + 1) _ (by omega) ?_
        rw [er, hρ, show 420 + (24 * d + row + (k : Int)) = 420 + (24 * d + row) + (k : Int) by omega]
        exact sh_s (by omega)
  refine Ev.aload_n dX5_firstOf_0 rfl ?_
  refine Ev.getr (420) dX5_firstOf_1 fl_X5_16 lm_0 (by decide) rfl rfl ?_
  refine Ev.bipush dX5_firstOf_4 ⟨by decide, by decide⟩ (by decide) ?_
  refine Ev.iload_n dX5_firstOf_6 rfl ?_
  refine Ev.imul dX5_firstOf_7 (by unfold ev_in; omega) ?_
  refine Ev.iload_n dX5_firstOf_8 rfl ?_
  refine Ev.iadd dX5_firstOf_9 (by unfold ev_in; omega) ?_
  refine Ev.iald dX5_firstOf_10 lm_420 (Or.inl rfl) (by omega) (by omega) ?_
  refine Ev.istore4 dX5_firstOf_11 ?_
  refine Ev.aload_n dX5_firstOf_13 rfl ?_
  refine Ev.iload_n dX5_firstOf_14 rfl ?_
  refine Ev.iload_n dX5_firstOf_15 rfl ?_
  refine Ev.aload_n dX5_firstOf_16 rfl ?_
  refine Ev.iload_n dX5_firstOf_17 rfl ?_
  refine Ev.iload_n dX5_firstOf_18 rfl ?_
  refine Ev.Vi2 (I' := jX5_of) ml_X5_100 dX5_firstOf_19 cyX5_of lm_0 rfl (by decide) ⟨by decide, by decide⟩ (by simp) rfl rfl (s_X5_of hd0 hd (by omega) (by omega)) (fun r σ' hr19 hq => ?_)
  obtain ⟨rfl, hq⟩ := hq
  replace hq := hq.symm
  subst hq
  refine Ev.iconst dX5_firstOf_22 ⟨by decide, by decide⟩ ?_
  refine Ev.isub dX5_firstOf_23 (by unfold ev_in; omega) ?_
  refine Ev.Vv3 (I' := jX5_puts) ml_X5_47 dX5_firstOf_24 cyX5_puts lm_0 rfl (by decide) ⟨by decide, by decide⟩ (by simp) rfl rfl (s_X5_puts hd0 hd (by omega) (by omega)) (fun σ' hq => ?_)
  subst hq
  refine Ev.iconst dX5_firstOf_27 ⟨by decide, by decide⟩ ?_
  refine Ev.istore5 dX5_firstOf_28 ?_
  exact loop (σ (300 + (18 * d + many)) - 1).toNat 0 _ (by omega) sh_0.symm
def p_take (d : Int) (τ : ev_M) : Int × ev_M := if ¬ (0 ≤ d ∧ d < τ 2) then (-1, τ) else if τ (300 + (18 * d + 16)) = 0 then (-4, τ) else (τ (420 + (24 * d + 12)), m_first d 12 16 τ)
theorem s_X5_take {b d : Int} {σ : ev_M} (hM : MI b σ) : Ev jX5_take layM 0 [some (rv 0), some (iv d)] [] σ (fun r σ' => (r, σ') = p_take d σ) := by
  have h2 := hM.s2
  refine Ev.aload_n dX5_take_0 rfl ?_
  refine Ev.iload_n dX5_take_1 rfl ?_
  refine Ev.Vi1 (I' := jX5_isDevice) ml_X5_170 dX5_take_2 cyX5_isDevice lm_0 rfl (by decide) ⟨by decide, by decide⟩ (by simp) rfl rfl (s_X5_isDevice' (by omega)) (fun r σ' hr2 hq => ?_)
  obtain ⟨hq1, hq⟩ := hq
  replace hq := hq.symm
  subst hq
  refine Ev.if_ne (tgt := 10) dX5_take_5 rfl (fun c5 => ?_) (fun c5 => ?_)
  · skip
    refine Ev.aload_n dX5_take_10 rfl ?_
    refine Ev.iload_n dX5_take_11 rfl ?_
    refine Ev.bipush dX5_take_12 ⟨by decide, by decide⟩ (by decide) ?_
    refine Ev.Vi2 (I' := jX5_of) ml_X5_100 dX5_take_14 cyX5_of lm_0 rfl (by decide) ⟨by decide, by decide⟩ (by simp) rfl rfl (s_X5_of (by omega) (by omega) (by decide) (by decide)) (fun r σ' hr14 hq => ?_)
    obtain ⟨rfl, hq⟩ := hq
    replace hq := hq.symm
    subst hq
    have a16 := hM.h16 (d := d) (by omega) (by omega)
    refine Ev.if_ne (tgt := 25) dX5_take_17 rfl (fun c17 => ?_) (fun c17 => ?_)
    · skip
      refine Ev.aload_n dX5_take_25 rfl ?_
      refine Ev.iload_n dX5_take_26 rfl ?_
      refine Ev.bipush dX5_take_27 ⟨by decide, by decide⟩ (by decide) ?_
      refine Ev.bipush dX5_take_29 ⟨by decide, by decide⟩ (by decide) ?_
      refine Ev.Vi3 (I' := jX5_firstOf) ml_X5_160 dX5_take_31 cyX5_firstOf lm_0 rfl (by decide) ⟨by decide, by decide⟩ (by simp) rfl rfl (s_X5_firstOf (by omega) (by omega) (Or.inr rfl) (Or.inr rfl) (by omega) (by omega)) (fun r σ' hr31 hq => ?_)
      obtain ⟨rfl, rfl⟩ := hq
      refine Ev.int rfl dX5_take_34 ?_
      unfold p_take
      repeat (first | rw [if_pos (by omega)] | rw [if_neg (by omega)])
    · skip
      refine Ev.bipush dX5_take_20 ⟨by decide, by decide⟩ (by decide) ?_
      refine Ev.goto (tgt := 34) dX5_take_22 rfl ?_
      refine Ev.int rfl dX5_take_34 ?_
      unfold p_take
      repeat (first | rw [if_pos (by omega)] | rw [if_neg (by omega)])
  · skip
    refine Ev.iconst dX5_take_8 ⟨by decide, by decide⟩ ?_
    refine Ev.int rfl dX5_take_9 ?_
    unfold p_take
    repeat (first | rw [if_pos (by omega)] | rw [if_neg (by omega)])
def m_gvb (set bb : Int) (d : Int) (τ : ev_M) : ev_M := if ev_and (ev_shr set d) 1 = 1 then ev_up (ev_up (ev_up τ (420 + (24 * d + 12 + τ (300 + (18 * d + 16)))) bb) (300 + (18 * d + 16)) (τ (300 + (18 * d + 16)) + 1)) 572 (τ 572 + 1) else τ
def m_gtk (τ : ev_M) : ev_M := m_ticks τ (m_slow (m_takers τ) τ + 2).toNat
def m_gb (τ : ev_M) : Int := if m_gtk τ 6 = 1 then m_gtk τ (300 + (18 * m_talk τ + 9)) + 64 * m_gtk τ (300 + (18 * m_talk τ + 10)) else m_gtk τ (420 + (24 * m_talk τ + 0))
def m_g2 (τ : ev_M) : ev_M := if m_gtk τ 6 = 1 then ev_up (m_gtk τ) (300 + (18 * m_talk τ + 10)) 0 else m_first (m_talk τ) 0 15 (m_gtk τ)
def m_g3 (τ : ev_M) : ev_M := it (m_gvb (m_takers τ) (m_gb τ)) (m_g2 τ) (τ 2).toNat
def p_gives (τ : ev_M) : Int × ev_M := if m_takers τ = 0 then (-2, τ) else (m_gb τ, ev_up (m_g3 τ) 571 (m_g3 τ 571 + 1))
theorem takers_f {τ : ev_M} (h2 : 0 ≤ τ 2) (h : m_takers τ ≠ 0) : 0 ≤ m_talk τ ∧ m_talk τ < τ 2 ∧ (τ 6 = 0 → τ (300 + (18 * m_talk τ + 15)) ≠ 0) ∧ ∀ i : Nat, (i : Int) < τ 2 → ev_and (ev_shr (m_takers τ) (i : Int)) 1 = 1 → τ (300 + (18 * (i : Int) + 16)) ≠ 12 := by
  unfold m_takers at h ⊢
  by_cases hc : m_tkset τ = 0 ∨ (τ 6 = 0 ∧ τ (300 + (18 * m_talk τ + 15)) = 0)
  · rw [if_pos hc] at h; exact absurd rfl h
  · rw [if_neg hc] at h ⊢
    by_cases hf : flr (m_tkset τ) τ (τ 2).toNat = 1
    · rw [if_pos hf] at h; exact absurd rfl h
    · rw [if_neg hf]
      have ht := m_talk_rng h2
      have h0 : ¬ m_talk τ < 0 := by
        intro z
        apply hc
        left
        unfold m_tkset
        rw [if_pos z]
      refine ⟨by omega, by omega, fun z y => hc (Or.inr ⟨z, y⟩), fun i hi hs => flr_no hf i (by omega) hs⟩
theorem MI.gtk {b : Int} {τ : ev_M} (h : MI b τ) : MI (b + 77) (m_gtk τ) := by
  have := m_slow_rng (set := m_takers τ) h
  exact (h.ticks _).mono (by omega)
theorem MI.first {b d row many : Int} {τ : ev_M} (h : MI b τ) (h0 : 0 ≤ d) (h1 : d < 6) (hrw : row = 0 ∨ row = 12) (hm : many = 15 ∨ many = 16) (g1 : 1 ≤ τ (300 + (18 * d + many))) (g2 : τ (300 + (18 * d + many)) ≤ 12) : MI b (m_first d row many τ) := by
  unfold m_first
  rcases hm with rfl | rfl
  · exact (h.u15 h0 h1 (by omega) (by omega)).sh (by omega) (by omega)
  · exact (h.u16 h0 h1 (by omega) (by omega)).sh (by omega) (by omega)
theorem MI.g2 {b : Int} {τ : ev_M} (h : MI b τ) (hs : m_takers τ ≠ 0) : MI (b + 77) (m_g2 τ) := by
  have h2 := h.s2
  obtain ⟨t0, t1, t3, -⟩ := takers_f h2.1 hs
  have hg := h.gtk
  have e6 : m_gtk τ 6 = τ 6 := m_ticks_o h (by decide) (by decide) _
  have h6 := h.s6
  unfold m_g2
  split
  · exact hg.u10 (by omega) (by omega) (by decide) (by decide)
  · have h15 := h.h15 (d := m_talk τ) (by omega) (by omega)
    exact hg.first (by omega) (by omega) (Or.inl rfl) (Or.inl rfl) (m_ticks_15 h (by omega) (by omega) (by have := t3 (by omega); omega) _) (hg.h15 (by omega) (by omega)).2
theorem g2_16 {b d : Int} {τ : ev_M} (h : MI b τ) (hs : m_takers τ ≠ 0) (h0 : 0 ≤ d) (h1 : d < 6) : m_g2 τ (300 + (18 * d + 16)) = τ (300 + (18 * d + 16)) := by
  have h2 := h.s2
  obtain ⟨t0, t1, t3, -⟩ := takers_f h2.1 hs
  have e : m_gtk τ (300 + (18 * d + 16)) = τ (300 + (18 * d + 16)) := m_ticks_w h h0 h1 (by decide) (by decide) (by decide) _
  unfold m_g2
  split
  · rw [ev_up_ne (by omega), e]
  · unfold m_first
    rw [sh_o (by omega), ev_up_ne (by omega), e]
theorem g2_o {b n : Int} {τ : ev_M} (h : MI b τ) (hs : m_takers τ ≠ 0) (hn : n < 300) (h7 : n ≠ 7) : m_g2 τ n = τ n := by
  have h2 := h.s2
  obtain ⟨t0, t1, t3, -⟩ := takers_f h2.1 hs
  have e : m_gtk τ n = τ n := m_ticks_o h hn h7 _
  unfold m_g2
  split
  · rw [ev_up_ne (by omega), e]
  · unfold m_first
    rw [sh_o (by omega), ev_up_ne (by omega), e]
theorem gvb_o {set bb d n : Int} {τ : ev_M} (h0 : 0 ≤ d) (h1 : d < 6) (hx : 0 ≤ τ (300 + (18 * d + 16))) (hn : n < 300) : m_gvb set bb d τ n = τ n := by
  unfold m_gvb
  split
  · rw [ev_up_ne (by omega), ev_up_ne (by omega), ev_up_ne (by omega)]
  · rfl
/-- while bytes are put behind IN: ranges, and who is not reached yet -/
theorem gvb_inv {b set bb : Int} {τ : ev_M} (h : MI b τ) (hbb : ev_in bb) {n : Nat} (hn : n ≤ 6) (hf : ∀ i : Nat, i < n → ev_and (ev_shr set (i : Int)) 1 = 1 → τ (300 + (18 * (i : Int) + 16)) ≠ 12) : ∀ k : Nat, k ≤ n → MI (b + (k : Int)) (it (m_gvb set bb) τ k) ∧ (∀ d : Int, (k : Int) ≤ d → d < 6 → it (m_gvb set bb) τ k (300 + (18 * d + 16)) = τ (300 + (18 * d + 16))) ∧ ∀ m : Int, m < 300 → it (m_gvb set bb) τ k m = τ m
  | 0, _ => ⟨by rw [show b + ((0 : Nat) : Int) = b by simp]; exact h, fun _ _ _ => rfl, fun _ _ => rfl⟩
  | k + 1, hk => by
    obtain ⟨i1, i2, i3⟩ := gvb_inv h hbb hn hf k (by omega)
    have e16 := i2 (k : Int) (by omega) (by omega)
    have r16 := i1.h16 (d := (k : Int)) (by omega) (by omega)
    have r572 := i1.sum (n := 572) (by decide) (by decide)
    have im := i1.mono (show b + (k : Int) ≤ b + ((k + 1 : Nat) : Int) by omega)
    refine ⟨?_, ?_, ?_⟩
    · show MI _ (m_gvb set bb (k : Int) (it (m_gvb set bb) τ k))
      unfold m_gvb
      split
      · next hs =>
        have := hf k (by omega) hs
        exact ((im.ufree (by unfold m_gvb at *; omega) hbb).u16 (by omega) (by omega) (by unfold m_gvb at *; omega) (by unfold m_gvb at *; omega)).usum (by decide) (by decide) (by unfold m_gvb at *; omega) (by unfold m_gvb at *; omega)
      · exact im
    · intro d hd hd6
      show m_gvb set bb (k : Int) (it (m_gvb set bb) τ k) (300 + (18 * d + 16)) = _
      rw [← i2 d (by omega) hd6]
      generalize it (m_gvb set bb) τ k = ρ at *
      unfold m_gvb
      split
      · rw [ev_up_ne (by omega), ev_up_ne (by omega), ev_up_ne (by omega)]
      · rfl
    · intro m hm
      show m_gvb set bb (k : Int) (it (m_gvb set bb) τ k) m = _
      rw [gvb_o (by omega) (by omega) r16.1 hm, i3 m hm]
