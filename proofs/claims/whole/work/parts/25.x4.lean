/-! the class: bytes given, polls -/
def fxr (σ : ev_M) : Nat → Int
  | 0 => 0
  | k + 1 => if fxr σ k = 1 then 1 else if ((k : Int) ≠ σ 7 ∧ σ (1000 + 100 * (k : Int) + 9) ≠ 0) ∧ 12 ≤ σ (1000 + 100 * (k : Int) + 50 + 1) then 1 else 0
def gsr (σ : ev_M) : Nat → Int
  | 0 => 0
  | k + 1 => if (k : Int) ≠ σ 7 ∧ σ (1000 + 100 * (k : Int) + 9) ≠ 0 then (if gsr σ k < σ (1000 + 100 * (k : Int) + 5) then σ (1000 + 100 * (k : Int) + 5) else gsr σ k) else gsr σ k
theorem fxr_stay {σ : ev_M} {k : Nat} (h : fxr σ k = 1) : ∀ j : Nat, fxr σ (k + j) = 1
  | 0 => h
  | j + 1 => by
    show (if fxr σ (k + j) = 1 then 1 else _) = 1
    rw [if_pos (fxr_stay h j)]
theorem gsr_rng {b : Int} {σ : ev_M} (h : XI b σ) : ∀ k : Nat, k ≤ 6 → 0 ≤ gsr σ k ∧ gsr σ k ≤ 9
  | 0, _ => ⟨Int.le_refl 0, show (0 : Int) ≤ 9 by decide⟩
  | k + 1, hk => by
    have := gsr_rng h k (by omega)
    have h3 := h.d5 (i := (k : Int)) (by omega) (by omega)
    show 0 ≤ (if (k : Int) ≠ σ 7 ∧ σ (1000 + 100 * (k : Int) + 9) ≠ 0 then (if gsr σ k < σ (1000 + 100 * (k : Int) + 5) then σ (1000 + 100 * (k : Int) + 5) else gsr σ k) else gsr σ k) ∧ (if (k : Int) ≠ σ 7 ∧ σ (1000 + 100 * (k : Int) + 9) ≠ 0 then (if gsr σ k < σ (1000 + 100 * (k : Int) + 5) then σ (1000 + 100 * (k : Int) + 5) else gsr σ k) else gsr σ k) ≤ 9
    split
    · split <;> omega
    · omega
def x_tnb (σ : ev_M) : Int := if ¬ (0 ≤ σ 7 ∧ σ 7 < σ 4) ∨ (σ 9 = 0 ∧ σ (1000 + 100 * σ 7 + 20 + 1) = 0) then -2 else if fxr σ (σ 4).toNat = 1 then -2 else if gsr σ (σ 4).toNat = 0 then -2 else gsr σ (σ 4).toNat + 2
theorem x_tnb_rng {b : Int} {σ : ev_M} (h : XI b σ) : x_tnb σ = -2 ∨ (2 ≤ x_tnb σ ∧ x_tnb σ ≤ 11 ∧ 0 ≤ σ 7 ∧ σ 7 < σ 4 ∧ ¬ (σ 9 = 0 ∧ σ (1000 + 100 * σ 7 + 20 + 1) = 0)) := by
  have := gsr_rng h _ h.nat4
  by_cases c1 : ¬ (0 ≤ σ 7 ∧ σ 7 < σ 4) ∨ (σ 9 = 0 ∧ σ (1000 + 100 * σ 7 + 20 + 1) = 0)
  · left; unfold x_tnb; rw [if_pos c1]
  · by_cases c2 : fxr σ (σ 4).toNat = 1
    · left; unfold x_tnb; rw [if_neg c1, if_pos c2]
    · by_cases c3 : gsr σ (σ 4).toNat = 0
      · left; unfold x_tnb; rw [if_neg c1, if_neg c2, if_pos c3]
      · right
        unfold x_tnb
        rw [if_neg c1, if_neg c2, if_neg c3]
        refine ⟨by omega, by omega, by omega, by omega, by omega⟩
theorem s_X4_ticksOfNextByte {b : Int} {σ : ev_M} (hX : XI b σ) : Ev jX4_ticksOfNextByte layX 0 [some (rv 0), none, none] [] σ (fun r σ' => r = x_tnb σ ∧ σ' = σ) := by
  have h4 := hX.s4
  have loop : ¬ (¬ (0 ≤ σ 7 ∧ σ 7 < σ 4) ∨ (σ 9 = 0 ∧ σ (1000 + 100 * σ 7 + 20 + 1) = 0)) → ∀ (j k : Nat), (k : Int) + j = σ 4 → fxr σ k ≠ 1 → Ev jX4_ticksOfNextByte layX 43 [some (rv 0), some (iv (gsr σ k)), some (iv (k : Int))] [] σ (fun r σ' => r = x_tnb σ ∧ σ' = σ) := by
    intro hc j
    induction j with
    | zero =>
      intro k hk hf
      have := gsr_rng hX k (by omega)
      refine Ev.iload_n dX4_ticksOfNextByte_43 rfl ?_
      refine Ev.aload_n dX4_ticksOfNextByte_44 rfl ?_
      refine Ev.geti (4) dX4_ticksOfNextByte_45 fl_X4_63 lx_0 (by decide) rfl rfl ?_
      refine Ev.icmp_ge (tgt := 99) dX4_ticksOfNextByte_48 rfl (fun c48 => ?_) (fun c48 => ?_)
      · skip
        refine Ev.iload_n dX4_ticksOfNextByte_99 rfl ?_
        refine Ev.if_ne (tgt := 108) dX4_ticksOfNextByte_100 rfl (fun c100 => ?_) (fun c100 => ?_)
        · skip
          refine Ev.iload_n dX4_ticksOfNextByte_108 rfl ?_
          refine Ev.iconst dX4_ticksOfNextByte_109 ⟨by decide, by decide⟩ ?_
          refine Ev.iadd dX4_ticksOfNextByte_110 (by unfold ev_in; omega) ?_
          refine Ev.int rfl dX4_ticksOfNextByte_111 ?_
          refine ⟨?_, rfl⟩
          unfold x_tnb
          rw [if_neg hc, show (σ 4).toNat = k by omega, if_neg hf]
          first | rw [if_pos (by omega)] | rw [if_neg (by omega)]
        · skip
          refine Ev.bipush dX4_ticksOfNextByte_103 ⟨by decide, by decide⟩ (by decide) ?_
          refine Ev.goto (tgt := 111) dX4_ticksOfNextByte_105 rfl ?_
          refine Ev.int rfl dX4_ticksOfNextByte_111 ?_
          refine ⟨?_, rfl⟩
          unfold x_tnb
          rw [if_neg hc, show (σ 4).toNat = k by omega, if_neg hf]
          first | rw [if_pos (by omega)] | rw [if_neg (by omega)]
      · skip
        exact absurd c48 (by omega)
    | succ j ih =>
      intro k hk hf
      have un : fxr σ (k + 1) = (if fxr σ k = 1 then 1 else if ((k : Int) ≠ σ 7 ∧ σ (1000 + 100 * (k : Int) + 9) ≠ 0) ∧ 12 ≤ σ (1000 + 100 * (k : Int) + 50 + 1) then 1 else 0) := rfl
      have ug : gsr σ (k + 1) = (if (k : Int) ≠ σ 7 ∧ σ (1000 + 100 * (k : Int) + 9) ≠ 0 then (if gsr σ k < σ (1000 + 100 * (k : Int) + 5) then σ (1000 + 100 * (k : Int) + 5) else gsr σ k) else gsr σ k) := rfl
      rw [if_neg hf] at un
      refine Ev.iload_n dX4_ticksOfNextByte_43 rfl ?_
      refine Ev.aload_n dX4_ticksOfNextByte_44 rfl ?_
      refine Ev.geti (4) dX4_ticksOfNextByte_45 fl_X4_63 lx_0 (by decide) rfl rfl ?_
      refine Ev.icmp_ge (tgt := 99) dX4_ticksOfNextByte_48 rfl (fun c48 => ?_) (fun c48 => ?_)
      · skip
        exact absurd c48 (by omega)
      · skip
        refine Ev.aload_n dX4_ticksOfNextByte_51 rfl ?_
        refine Ev.iload_n dX4_ticksOfNextByte_52 rfl ?_
        refine Ev.Vi1 (I' := jX4_takesBytes) ml_X4_270 dX4_ticksOfNextByte_53 cyX4_takesBytes lx_0 rfl (by decide) ⟨by decide, by decide⟩ (by simp) rfl rfl (s_X4_takesBytes (by omega) (by omega)) (fun r σ' hr53 hq => ?_)
        obtain ⟨hq1, hq⟩ := hq
        replace hq := hq.symm
        subst hq
        refine Ev.if_eq (tgt := 93) dX4_ticksOfNextByte_56 rfl (fun c56 => ?_) (fun c56 => ?_)
        · skip
          refine Ev.iinc2 dX4_ticksOfNextByte_93 (by unfold ev_in; omega) ?_
          refine Ev.goto (tgt := 43) dX4_ticksOfNextByte_96 rfl ?_
          have := ih (k + 1) (by omega) (by rw [un, if_neg (by omega)]; decide)
          rw [ug] at this
          first | (rw [if_pos (by omega)] at this; exact this) | (rw [if_neg (by omega)] at this; exact this)
        · skip
          refine Ev.aload_n dX4_ticksOfNextByte_59 rfl ?_
          refine Ev.getr (50) dX4_ticksOfNextByte_60 fl_X4_18 lx_0 (by decide) rfl rfl ?_
          refine Ev.iload_n dX4_ticksOfNextByte_63 rfl ?_
          refine Ev.aald dX4_ticksOfNextByte_64 lx_50 (by omega) (by omega) ?_
          refine Ev.getr (_ + 50) dX4_ticksOfNextByte_65 fl_X4_113 (lx_dev (by omega) (by omega)) (by decide) rfl rfl ?_
          refine Ev.geti (_ + 1) dX4_ticksOfNextByte_68 fl_X4_269 (lx_inn (by omega) (by omega)) (by decide) rfl rfl ?_
          refine Ev.bipush dX4_ticksOfNextByte_71 ⟨by decide, by decide⟩ (by decide) ?_
          refine Ev.icmp_lt (tgt := 79) dX4_ticksOfNextByte_73 rfl (fun c73 => ?_) (fun c73 => ?_)
          · skip
            refine Ev.iload_n dX4_ticksOfNextByte_79 rfl ?_
            refine Ev.aload_n dX4_ticksOfNextByte_80 rfl ?_
            refine Ev.getr (50) dX4_ticksOfNextByte_81 fl_X4_18 lx_0 (by decide) rfl rfl ?_
            refine Ev.iload_n dX4_ticksOfNextByte_84 rfl ?_
            refine Ev.aald dX4_ticksOfNextByte_85 lx_50 (by omega) (by omega) ?_
            refine Ev.geti (_ + 5) dX4_ticksOfNextByte_86 fl_X4_144 (lx_dev (by omega) (by omega)) (by decide) rfl rfl ?_
            refine Ev.mmax dX4_ticksOfNextByte_89 ml_X4_192 ms_max mi_math mc_max (by decide) (by simp) ?_
            refine Ev.istore1 rfl dX4_ticksOfNextByte_92 ?_
            refine Ev.iinc2 dX4_ticksOfNextByte_93 (by unfold ev_in; omega) ?_
            refine Ev.goto (tgt := 43) dX4_ticksOfNextByte_96 rfl ?_
            have := ih (k + 1) (by omega) (by rw [un, if_neg (by omega)]; decide)
            rw [ug] at this
            first | (rw [if_pos (by omega)] at this; exact this) | (rw [if_neg (by omega)] at this; exact this)
          · skip
            refine Ev.bipush dX4_ticksOfNextByte_76 ⟨by decide, by decide⟩ (by decide) ?_
            refine Ev.int rfl dX4_ticksOfNextByte_78 ?_
            refine ⟨?_, rfl⟩
            rw [if_pos (by omega)] at un
            unfold x_tnb
            rw [if_neg hc, show (σ 4).toNat = (k + 1) + j by omega, if_pos (fxr_stay un j)]
  refine Ev.aload_n dX4_ticksOfNextByte_0 rfl ?_
  refine Ev.aload_n dX4_ticksOfNextByte_1 rfl ?_
  refine Ev.geti (7) dX4_ticksOfNextByte_2 fl_X4_89 lx_0 (by decide) rfl rfl ?_
  refine Ev.Vi1 (I' := jX4_isDevice) ml_X4_102 dX4_ticksOfNextByte_5 cyX4_isDevice lx_0 rfl (by decide) ⟨by decide, by decide⟩ (by simp) rfl rfl (s_X4_isDevice) (fun r σ' hr5 hq => ?_)
  obtain ⟨hq1, hq⟩ := hq
  replace hq := hq.symm
  subst hq
  refine Ev.if_eq (tgt := 36) dX4_ticksOfNextByte_8 rfl (fun c8 => ?_) (fun c8 => ?_)
  · skip
    refine Ev.bipush dX4_ticksOfNextByte_36 ⟨by decide, by decide⟩ (by decide) ?_
    refine Ev.int rfl dX4_ticksOfNextByte_38 ?_
    refine ⟨?_, rfl⟩
    unfold x_tnb
    rw [if_pos (by omega)]
  · skip
    refine Ev.aload_n dX4_ticksOfNextByte_11 rfl ?_
    refine Ev.geti (9) dX4_ticksOfNextByte_12 fl_X4_98 lx_0 (by decide) rfl rfl ?_
    refine Ev.if_ne (tgt := 39) dX4_ticksOfNextByte_15 rfl (fun c15 => ?_) (fun c15 => ?_)
    · skip
      refine Ev.iconst dX4_ticksOfNextByte_39 ⟨by decide, by decide⟩ ?_
      refine Ev.istore1 rfl dX4_ticksOfNextByte_40 ?_
      refine Ev.iconst dX4_ticksOfNextByte_41 ⟨by decide, by decide⟩ ?_
      refine Ev.istore2 rfl dX4_ticksOfNextByte_42 ?_
      exact loop (by omega) (σ 4).toNat 0 (by omega) (by show (0 : Int) ≠ 1; decide)
    · skip
      refine Ev.aload_n dX4_ticksOfNextByte_18 rfl ?_
      refine Ev.getr (50) dX4_ticksOfNextByte_19 fl_X4_18 lx_0 (by decide) rfl rfl ?_
      refine Ev.aload_n dX4_ticksOfNextByte_22 rfl ?_
      refine Ev.geti (7) dX4_ticksOfNextByte_23 fl_X4_89 lx_0 (by decide) rfl rfl ?_
      refine Ev.aald dX4_ticksOfNextByte_26 lx_50 (by omega) (by omega) ?_
      refine Ev.getr (_ + 20) dX4_ticksOfNextByte_27 fl_X4_106 (lx_dev (by omega) (by omega)) (by decide) rfl rfl ?_
      refine Ev.geti (_ + 1) dX4_ticksOfNextByte_30 fl_X4_269 (lx_out (by omega) (by omega)) (by decide) rfl rfl ?_
      refine Ev.if_ne (tgt := 39) dX4_ticksOfNextByte_33 rfl (fun c33 => ?_) (fun c33 => ?_)
      · skip
        refine Ev.iconst dX4_ticksOfNextByte_39 ⟨by decide, by decide⟩ ?_
        refine Ev.istore1 rfl dX4_ticksOfNextByte_40 ?_
        refine Ev.iconst dX4_ticksOfNextByte_41 ⟨by decide, by decide⟩ ?_
        refine Ev.istore2 rfl dX4_ticksOfNextByte_42 ?_
        exact loop (by omega) (σ 4).toNat 0 (by omega) (by show (0 : Int) ≠ 1; decide)
      · skip
        refine Ev.bipush dX4_ticksOfNextByte_36 ⟨by decide, by decide⟩ (by decide) ?_
        refine Ev.int rfl dX4_ticksOfNextByte_38 ?_
        refine ⟨?_, rfl⟩
        unfold x_tnb
        rw [if_pos (by omega)]
theorem XI.app {b i v : Int} {σ : ev_M} (h : XI b σ) (h0 : 0 ≤ i) (h1 : i < 6) (hv : ev_in v) : XI b (x_app (1000 + 100 * i + 50) v σ).2 := by
  have a := h.d51 h0 h1
  unfold x_app
  split
  · exact h
  · show XI b (ev_up (ev_up σ (1000 + 100 * i + 50 + 10 + σ (1000 + 100 * i + 50 + 1)) v) (1000 + 100 * i + 50 + 1) (σ (1000 + 100 * i + 50 + 1) + 1))
    rw [show 1000 + 100 * i + 50 + 10 + σ (1000 + 100 * i + 50 + 1) = 1000 + 100 * i + (60 + σ (1000 + 100 * i + 50 + 1)) by omega]
    exact (h.ubyte h0 h1 (Or.inr (by omega)) hv).u51 h0 h1 (by omega) (by omega)
theorem x_app_o {b i v n : Int} {σ : ev_M} (h : XI b σ) (h0 : 0 ≤ i) (h1 : i < 6) (hn : n < 1000) : (x_app (1000 + 100 * i + 50) v σ).2 n = σ n := by
  have a := h.d51 h0 h1
  unfold x_app
  split
  · rfl
  · show ev_up (ev_up σ (1000 + 100 * i + 50 + 10 + σ (1000 + 100 * i + 50 + 1)) v) (1000 + 100 * i + 50 + 1) (σ (1000 + 100 * i + 50 + 1) + 1) n = σ n
    rw [ev_up_ne (by omega), ev_up_ne (by omega)]
def x_gb (v : Int) (i : Int) (σ : ev_M) : ev_M := if i ≠ σ 7 ∧ σ (1000 + 100 * i + 9) ≠ 0 then ev_up (x_app (1000 + 100 * i + 50) v σ).2 42 (σ 42 + 1) else σ
theorem XI.gb {b v i : Int} {σ : ev_M} (h : XI b σ) (h0 : 0 ≤ i) (h1 : i < 6) (hv : ev_in v) : XI (b + 1) (x_gb v i σ) := by
  have a := h.sum (n := 42) (by decide)
  unfold x_gb
  split
  · exact ((h.app h0 h1 hv).mono (by omega)).usum (by decide) (by omega) (by omega)
  · exact h.mono (by omega)
theorem x_gb_o {b v i n : Int} {σ : ev_M} (h : XI b σ) (h0 : 0 ≤ i) (h1 : i < 6) (hn : n < 1000) (h42 : n ≠ 42) : x_gb v i σ n = σ n := by
  unfold x_gb
  split
  · rw [ev_up_ne h42, x_app_o h h0 h1 hn]
  · rfl
/-- ranges and numbers that stay while bytes are put behind IN -/
theorem gb_inv {b v : Int} {σ : ev_M} (h : XI b σ) (hv : ev_in v) : ∀ k : Nat, k ≤ 6 → XI (b + (k : Int)) (it (x_gb v) σ k) ∧ ∀ n : Int, n < 1000 → n ≠ 42 → it (x_gb v) σ k n = σ n
  | 0, _ => ⟨by rw [show b + ((0 : Nat) : Int) = b by simp]; exact h, fun _ _ _ => rfl⟩
  | k + 1, hk => by
    obtain ⟨i1, i2⟩ := gb_inv h hv k (by omega)
    refine ⟨(i1.gb (by omega) (by omega) hv).mono (by omega), fun n hn h42 => ?_⟩
    show x_gb v (k : Int) (it (x_gb v) σ k) n = σ n
    rw [x_gb_o i1 (by omega) (by omega) hn h42, i2 n hn h42]
def x_gt (σ : ev_M) : ev_M := x_pass (x_tnb σ) σ
def x_gv (σ : ev_M) : Int := if x_gt σ 9 = 0 then (x_rmv (1000 + 100 * σ 7 + 20) (x_gt σ)).1 else x_pb (σ 7) (x_gt σ)
def x_g2 (σ : ev_M) : ev_M := if x_gt σ 9 = 0 then (x_rmv (1000 + 100 * σ 7 + 20) (x_gt σ)).2 else ev_up (x_gt σ) (1000 + 100 * σ 7 + 8) 0
def x_g3 (σ : ev_M) : ev_M := it (x_gb (x_gv σ)) (x_g2 σ) (σ 4).toNat
def x_give (σ : ev_M) : Int × ev_M := if x_tnb σ = -2 then (-2, σ) else (x_gv σ, ev_up (x_g3 σ) 41 (x_g3 σ 41 + 1))
theorem XI.gt {b : Int} {σ : ev_M} (h : XI b σ) (hs : x_tnb σ ≠ -2) : XI (b + 17) (x_gt σ) := by
  have := x_tnb_rng h
  exact (h.pass (by omega)).mono (by omega)
theorem XI.shb {b i k : Int} {σ : ev_M} (h : XI b σ) (h0 : 0 ≤ i) (h1 : i < 6) (lo : Int) (hl : lo = 30 ∨ lo = 60) (hk : k ≤ 11) : XI b (m_sh (1000 + 100 * i + lo) k σ) := by
  intro n
  unfold m_sh
  split
  · next hn =>
    have fr : ∀ j : Int, lo ≤ j → j < lo + 12 → xlo (1000 + 100 * i + j) = -2147483648 ∧ xhi b (1000 + 100 * i + j) = 2147483647 := by
      intro j j0 j1
      constructor
      · unfold xlo
        rw [if_pos (by omega), show (1000 + 100 * i + j - 1000) % 100 = j by omega]
        unfold xfl
        rw [if_neg (by omega), if_neg (by omega)]
      · unfold xhi
        rw [if_pos (by omega), show (1000 + 100 * i + j - 1000) % 100 = j by omega]
        unfold xfh
        repeat' split
        all_goals omega
    have f1 := fr (n - (1000 + 100 * i)) (by omega) (by omega)
    have f2 := fr (n + 1 - (1000 + 100 * i)) (by omega) (by omega)
    rw [show 1000 + 100 * i + (n - (1000 + 100 * i)) = n by omega] at f1
    rw [show 1000 + 100 * i + (n + 1 - (1000 + 100 * i)) = n + 1 by omega] at f2
    have := h (n + 1)
    rw [f2.1, f2.2] at this
    rw [f1.1, f1.2]
    exact this
  · exact h n
theorem XI.rmv {b i o : Int} {σ : ev_M} (h : XI b σ) (h0 : 0 ≤ i) (h1 : i < 6) (ho : o = 20 ∨ o = 50) : XI b (x_rmv (1000 + 100 * i + o) σ).2 := by
  unfold x_rmv
  split
  · exact h
  · rcases ho with rfl | rfl
    · have a := h.d21 h0 h1
      show XI b (m_sh (1000 + 100 * i + 20 + 10) (σ (1000 + 100 * i + 20 + 1) - 1) (ev_up σ (1000 + 100 * i + 20 + 1) (σ (1000 + 100 * i + 20 + 1) - 1)))
      rw [show 1000 + 100 * i + 20 + 10 = 1000 + 100 * i + 30 by omega]
      exact (h.u21 h0 h1 (by omega) (by omega)).shb h0 h1 30 (Or.inl rfl) (by omega)
    · have a := h.d51 h0 h1
      show XI b (m_sh (1000 + 100 * i + 50 + 10) (σ (1000 + 100 * i + 50 + 1) - 1) (ev_up σ (1000 + 100 * i + 50 + 1) (σ (1000 + 100 * i + 50 + 1) - 1)))
      rw [show 1000 + 100 * i + 50 + 10 = 1000 + 100 * i + 60 by omega]
      exact (h.u51 h0 h1 (by omega) (by omega)).shb h0 h1 60 (Or.inr rfl) (by omega)
theorem x_rmv_o {i o n : Int} {σ : ev_M} (h0 : 0 ≤ i) (h1 : i < 6) (ho : o = 20 ∨ o = 50) (hn : n < 1000) : (x_rmv (1000 + 100 * i + o) σ).2 n = σ n := by
  unfold x_rmv
  split
  · rfl
  · show m_sh _ _ (ev_up _ _ _) n = σ n
    rw [sh_o (by omega), ev_up_ne (by omega)]
theorem XI.g2 {b : Int} {σ : ev_M} (h : XI b σ) (hs : x_tnb σ ≠ -2) : XI (b + 17) (x_g2 σ) := by
  have hg := h.gt hs
  have hr := x_tnb_rng h
  have h4 := h.s4
  unfold x_g2
  split
  · exact hg.rmv (by omega) (by omega) (Or.inl rfl)
  · exact hg.u8 (by omega) (by omega) (by decide) (by decide)
theorem x_g2_o {b n : Int} {σ : ev_M} (h : XI b σ) (hs : x_tnb σ ≠ -2) (hn : n < 1000) (h5 : n ≠ 5) (h43 : n ≠ 43) : x_g2 σ n = σ n := by
  have hr := x_tnb_rng h
  have h4 := h.s4
  have e : x_gt σ n = σ n := x_pass_o h hn h43 h5
  unfold x_g2
  split
  · rw [x_rmv_o (by omega) (by omega) (Or.inl rfl) hn, e]
  · rw [ev_up_ne (by omega), e]
theorem x_gv_in {b : Int} {σ : ev_M} (h : XI b σ) (hb : b ≤ 900000000) (hs : x_tnb σ ≠ -2) : ev_in (x_gv σ) := by
  have hg := h.gt hs
  have hr := x_tnb_rng h
  have h4 := h.s4
  have a7 := hg.d7 (i := σ 7) (by omega) (by omega)
  unfold x_gv
  split
  · unfold x_rmv
    split
    · show ev_in (-4); unfold ev_in; omega
    · have := hg.inb (i := σ 7) (j := 30) (by omega) (by omega) (Or.inl (by decide))
      show ev_in (x_gt σ (1000 + 100 * σ 7 + 20 + 10 + 0))
      rwa [show 1000 + 100 * σ 7 + 20 + 10 + 0 = 1000 + 100 * σ 7 + 30 by omega]
  · unfold x_pb ev_in
    split <;> omega
theorem XI.give {b : Int} {σ : ev_M} (h : XI b σ) (hb : b ≤ 900000000) : XI (b + 24) (x_give σ).2 := by
  unfold x_give
  split
  · exact h.mono (by omega)
  · next hs =>
    have hn := h.nat4
    have h3 := (gb_inv (h.g2 hs) (x_gv_in h hb hs) _ hn).1
    have h3' := h3.mono (show b + 17 + (((σ 4).toNat : Nat) : Int) ≤ b + 23 by omega)
    have a := h3'.sum (n := 41) (by decide)
    show XI (b + 24) (ev_up (x_g3 σ) 41 (x_g3 σ 41 + 1))
    exact (h3'.mono (by omega)).usum (by decide) (by unfold x_g3; omega) (by unfold x_g3; omega)
theorem x_give_o {b n : Int} {σ : ev_M} (h : XI b σ) (hb : b ≤ 900000000) (hn : n < 1000) (hx : n ≠ 5 ∧ n ≠ 41 ∧ n ≠ 42 ∧ n ≠ 43) : (x_give σ).2 n = σ n := by
  unfold x_give
  split
  · rfl
  · next hs =>
    have hk := h.nat4
    have h3 := (gb_inv (h.g2 hs) (x_gv_in h hb hs) _ hk).2 n hn (by omega)
    show ev_up (x_g3 σ) 41 (x_g3 σ 41 + 1) n = σ n
    rw [ev_up_ne (by omega)]
    unfold x_g3
    rw [h3, x_g2_o h hs hn (by omega) (by omega)]
theorem s_X4_giveByte {b : Int} {σ : ev_M} (hX : XI b σ) (hb : b ≤ 800000000) : Ev jX4_giveByte layX 0 [some (rv 0), none, none, none] [] σ (fun r σ' => (r, σ') = x_give σ) := by
  have h4 := hX.s4
  have hr := x_tnb_rng hX
  by_cases hs : x_tnb σ = -2
  · skip
    refine Ev.aload_n dX4_giveByte_0 rfl ?_
    refine Ev.Vi0 (I' := jX4_ticksOfNextByte) ml_X4_166 dX4_giveByte_1 cyX4_ticksOfNextByte lx_0 rfl (by decide) ⟨by decide, by decide⟩ (by simp) rfl rfl (s_X4_ticksOfNextByte hX) (fun r σ' hr1 hq => ?_)
    obtain ⟨rfl, hq⟩ := hq
    replace hq := hq.symm
    subst hq
    refine Ev.istore1 rfl dX4_giveByte_4 ?_
    refine Ev.iload_n dX4_giveByte_5 rfl ?_
    refine Ev.bipush dX4_giveByte_6 ⟨by decide, by decide⟩ (by decide) ?_
    refine Ev.icmp_eq (tgt := 22) dX4_giveByte_8 rfl (fun c8 => ?_) (fun c8 => ?_)
    · skip
      refine Ev.bipush dX4_giveByte_22 ⟨by decide, by decide⟩ (by decide) ?_
      refine Ev.int rfl dX4_giveByte_24 ?_
      unfold x_give
      rw [if_pos hs]
    · skip
      exact absurd hs c8
  · have hG := hX.gt hs
    have hG2 := hX.g2 hs
    have hv := x_gv_in hX (by omega) hs
    have e7 : x_gt σ 7 = σ 7 := x_pass_o hX (by decide) (by decide) (by decide)
    have e4 : x_gt σ 4 = σ 4 := x_pass_o hX (by decide) (by decide) (by decide)
    have a7 := hG.d7 (i := σ 7) (by omega) (by omega)
    have a21 := hG.d21 (i := σ 7) (by omega) (by omega)
    have loop : ∀ (j k : Nat) (ρ : ev_M) (v1 : Option ev_V), (k : Int) + j = σ 4 → ρ = it (x_gb (x_gv σ)) (x_g2 σ) k → Ev jX4_giveByte layX 84 [some (rv 0), v1, some (iv (x_gv σ)), some (iv (k : Int))] [] ρ (fun r σ' => (r, σ') = x_give σ) := by
      intro j
      induction j with
      | zero =>
        intro k ρ v1 hk hρ
        obtain ⟨i1, i2⟩ := gb_inv hG2 hv k (by omega)
        rw [← hρ] at i1 i2
        have r4 : ρ 4 = σ 4 := by rw [i2 4 (by decide) (by decide), x_g2_o hX hs (by decide) (by decide) (by decide)]
        have a41 := i1.sum (n := 41) (by decide)
        refine Ev.iload_n dX4_giveByte_84 rfl ?_
        refine Ev.aload_n dX4_giveByte_85 rfl ?_
        refine Ev.geti (4) dX4_giveByte_86 fl_X4_63 lx_0 (by decide) rfl rfl ?_
        refine Ev.icmp_ge (tgt := 130) dX4_giveByte_89 rfl (fun c89 => ?_) (fun c89 => ?_)
        · skip
          refine Ev.aload_n dX4_giveByte_130 rfl ?_
          refine Ev.getr (40) dX4_giveByte_131 fl_X4_30 lx_0 (by decide) rfl rfl ?_
          refine Ev.iconst dX4_giveByte_134 ⟨by decide, by decide⟩ ?_
          refine Ev.dup2 dX4_giveByte_135 ?_
          refine Ev.ialdn (41) dX4_giveByte_136 lx_40 (Or.inl rfl) (by decide) (by decide) rfl ?_
          refine Ev.iconst dX4_giveByte_137 ⟨by decide, by decide⟩ ?_
          refine Ev.iadd dX4_giveByte_138 (by unfold ev_in; omega) ?_
          refine Ev.iastn (41) dX4_giveByte_139 lx_40 (by decide) (by decide) rfl ?_
          refine Ev.iload_n dX4_giveByte_140 rfl ?_
          refine Ev.int rfl dX4_giveByte_141 ?_
          unfold x_give
          rw [if_neg hs]
          unfold x_g3
          rw [show (σ 4).toNat = k by omega, ← hρ]
        · skip
          exact absurd c89 (by omega)
      | succ j ih =>
        intro k ρ v1 hk hρ
        obtain ⟨i1, i2⟩ := gb_inv hG2 hv k (by omega)
        rw [← hρ] at i1 i2
        have r4 : ρ 4 = σ 4 := by rw [i2 4 (by decide) (by decide), x_g2_o hX hs (by decide) (by decide) (by decide)]
        have a51 := i1.d51 (i := (k : Int)) (by omega) (by omega)
        have a42 := i1.sum (n := 42) (by decide)
        have o42 := x_app_o (v := x_gv σ) i1 (i := (k : Int)) (n := 42) (by omega) (by omega) (by decide)
        refine Ev.iload_n dX4_giveByte_84 rfl ?_
        refine Ev.aload_n dX4_giveByte_85 rfl ?_
        refine Ev.geti (4) dX4_giveByte_86 fl_X4_63 lx_0 (by decide) rfl rfl ?_
        refine Ev.icmp_ge (tgt := 130) dX4_giveByte_89 rfl (fun c89 => ?_) (fun c89 => ?_)
        · skip
          exact absurd c89 (by omega)
        · skip
          refine Ev.aload_n dX4_giveByte_92 rfl ?_
          refine Ev.iload_n dX4_giveByte_93 rfl ?_
          refine Ev.Vi1 (I' := jX4_takesBytes) ml_X4_270 dX4_giveByte_94 cyX4_takesBytes lx_0 rfl (by decide) ⟨by decide, by decide⟩ (by simp) rfl rfl (s_X4_takesBytes (by omega) (by omega)) (fun r σ' hr94 hq => ?_)
          obtain ⟨hq1, hq⟩ := hq
          replace hq := hq.symm
          subst hq
          refine Ev.if_eq (tgt := 124) dX4_giveByte_97 rfl (fun c97 => ?_) (fun c97 => ?_)
          · skip
            refine Ev.iinc3 dX4_giveByte_124 (by unfold ev_in; omega) ?_
            refine Ev.goto (tgt := 84) dX4_giveByte_127 rfl ?_
            refine ih (k + 1) _ _ (by omega) ?_
            rw [show it (x_gb (x_gv σ)) (x_g2 σ) (k + 1) = x_gb (x_gv σ) (k : Int) (it (x_gb (x_gv σ)) (x_g2 σ) k) from rfl, ← hρ]
            unfold x_gb
            first | rw [if_pos (by omega)] | rw [if_neg (by omega)]
          · skip
            refine Ev.aload_n dX4_giveByte_100 rfl ?_
            refine Ev.getr (50) dX4_giveByte_101 fl_X4_18 lx_0 (by decide) rfl rfl ?_
            refine Ev.iload_n dX4_giveByte_104 rfl ?_
            refine Ev.aald dX4_giveByte_105 lx_50 (by omega) (by omega) ?_
            refine Ev.getr (_ + 50) dX4_giveByte_106 fl_X4_113 (lx_dev (by omega) (by omega)) (by decide) rfl rfl ?_
            refine Ev.iload_n dX4_giveByte_109 rfl ?_
            refine Ev.Vi1 (I' := jX0_append) ml_X4_110 dX4_giveByte_110 cyX0_append (lx_inn (by omega) (by omega)) rfl (by decide) ⟨by decide, by decide⟩ (by simp) rfl rfl (s_X0_append (lx_inn (by omega) (by omega)) (lx_ib (by omega) (by omega)) (by omega) (by omega)) (fun r σ' hr110 hq => ?_)
            have hg2 : σ' = (x_app (1000 + 100 * (k : Int) + 50) (x_gv σ) ρ).2 := congrArg Prod.snd hq
            clear hq
            subst hg2
            refine Ev.pop dX4_giveByte_113 ?_
            refine Ev.aload_n dX4_giveByte_114 rfl ?_
            refine Ev.getr (40) dX4_giveByte_115 fl_X4_30 lx_0 (by decide) rfl rfl ?_
            refine Ev.iconst dX4_giveByte_118 ⟨by decide, by decide⟩ ?_
            refine Ev.dup2 dX4_giveByte_119 ?_
            refine Ev.ialdn (42) dX4_giveByte_120 lx_40 (Or.inl rfl) (by decide) (by decide) rfl ?_
            try rw [o42]
            refine Ev.iconst dX4_giveByte_121 ⟨by decide, by decide⟩ ?_
            refine Ev.iadd dX4_giveByte_122 (by unfold ev_in; omega) ?_
            refine Ev.iastn (42) dX4_giveByte_123 lx_40 (by decide) (by decide) rfl ?_
            refine Ev.iinc3 dX4_giveByte_124 (by unfold ev_in; omega) ?_
            refine Ev.goto (tgt := 84) dX4_giveByte_127 rfl ?_
            refine ih (k + 1) _ _ (by omega) ?_
            rw [show it (x_gb (x_gv σ)) (x_g2 σ) (k + 1) = x_gb (x_gv σ) (k : Int) (it (x_gb (x_gv σ)) (x_g2 σ) k) from rfl, ← hρ]
            unfold x_gb
            first | rw [if_pos (by omega)] | rw [if_neg (by omega)]
    refine Ev.aload_n dX4_giveByte_0 rfl ?_
    refine Ev.Vi0 (I' := jX4_ticksOfNextByte) ml_X4_166 dX4_giveByte_1 cyX4_ticksOfNextByte lx_0 rfl (by decide) ⟨by decide, by decide⟩ (by simp) rfl rfl (s_X4_ticksOfNextByte hX) (fun r σ' hr1 hq => ?_)
    obtain ⟨rfl, hq⟩ := hq
    replace hq := hq.symm
    subst hq
    refine Ev.istore1 rfl dX4_giveByte_4 ?_
    refine Ev.iload_n dX4_giveByte_5 rfl ?_
    refine Ev.bipush dX4_giveByte_6 ⟨by decide, by decide⟩ (by decide) ?_
    refine Ev.icmp_eq (tgt := 22) dX4_giveByte_8 rfl (fun c8 => ?_) (fun c8 => ?_)
    · skip
      first | exact absurd c8 hs | (exfalso; omega)
    · skip
      refine Ev.aload_n dX4_giveByte_11 rfl ?_
      refine Ev.aload_n dX4_giveByte_12 rfl ?_
      refine Ev.geti (7) dX4_giveByte_13 fl_X4_89 lx_0 (by decide) rfl rfl ?_
      refine Ev.Vi1 (I' := jX4_isDevice) ml_X4_102 dX4_giveByte_16 cyX4_isDevice lx_0 rfl (by decide) ⟨by decide, by decide⟩ (by simp) rfl rfl (s_X4_isDevice) (fun r σ' hr16 hq => ?_)
      obtain ⟨hq1, hq⟩ := hq
      replace hq := hq.symm
      subst hq
      refine Ev.if_ne (tgt := 25) dX4_giveByte_19 rfl (fun c19 => ?_) (fun c19 => ?_)
      · skip
        refine Ev.aload_n dX4_giveByte_25 rfl ?_
        refine Ev.iload_n dX4_giveByte_26 rfl ?_
        refine Ev.Vv1 (I' := jX4_passTicks) ml_X4_76 dX4_giveByte_27 cyX4_passTicks lx_0 rfl (by decide) ⟨by decide, by decide⟩ (by simp) rfl rfl (s_X4_passTicks (by omega) (by omega) hX (by omega)) (fun σ' hq => ?_)
        subst hq
        rw [show x_pass (x_tnb σ) σ = x_gt σ from rfl]
        refine Ev.aload_n dX4_giveByte_30 rfl ?_
        refine Ev.geti (9) dX4_giveByte_31 fl_X4_98 lx_0 (by decide) rfl rfl ?_
        try rw [e7]
        refine Ev.if_eq (tgt := 66) dX4_giveByte_34 rfl (fun c34 => ?_) (fun c34 => ?_)
        · skip
          refine Ev.aload_n dX4_giveByte_66 rfl ?_
          refine Ev.getr (50) dX4_giveByte_67 fl_X4_18 lx_0 (by decide) rfl rfl ?_
          refine Ev.aload_n dX4_giveByte_70 rfl ?_
          refine Ev.geti (7) dX4_giveByte_71 fl_X4_89 lx_0 (by decide) rfl rfl ?_
          try rw [e7]
          refine Ev.aald dX4_giveByte_74 lx_50 (by omega) (by omega) ?_
          refine Ev.getr (_ + 20) dX4_giveByte_75 fl_X4_106 (lx_dev (by omega) (by omega)) (by decide) rfl rfl ?_
          refine Ev.Vi0 (I' := jX0_removeFirst) ml_X4_116 dX4_giveByte_78 cyX0_removeFirst (lx_out (by omega) (by omega)) rfl (by decide) ⟨by decide, by decide⟩ (by simp) rfl rfl (s_X0_removeFirst (lx_out (by omega) (by omega)) (lx_ob (by omega) (by omega)) (by omega) (by omega)) (fun r σ' hr78 hq => ?_)
          have hg1 : r = (x_rmv (1000 + 100 * σ 7 + 20) (x_gt σ)).1 := congrArg Prod.fst hq
          have hg2 : σ' = (x_rmv (1000 + 100 * σ 7 + 20) (x_gt σ)).2 := congrArg Prod.snd hq
          clear hq
          subst hg1
          subst hg2
          try rw [e7]
          rw [show (x_rmv (1000 + 100 * σ 7 + 20) (x_gt σ)).1 = x_gv σ by unfold x_gv; rw [if_pos (by omega)]]
          refine Ev.istore2 rfl dX4_giveByte_81 ?_
          refine Ev.iconst dX4_giveByte_82 ⟨by decide, by decide⟩ ?_
          refine Ev.istore3 rfl dX4_giveByte_83 ?_
          exact loop (σ 4).toNat 0 _ _ (by omega) (by show _ = x_g2 σ; unfold x_g2; first | rw [if_pos (by omega)] | rw [if_neg (by omega)])
        · skip
          refine Ev.aload_n dX4_giveByte_37 rfl ?_
          refine Ev.getr (50) dX4_giveByte_38 fl_X4_18 lx_0 (by decide) rfl rfl ?_
          refine Ev.aload_n dX4_giveByte_41 rfl ?_
          refine Ev.geti (7) dX4_giveByte_42 fl_X4_89 lx_0 (by decide) rfl rfl ?_
          try rw [e7]
          refine Ev.aald dX4_giveByte_45 lx_50 (by omega) (by omega) ?_
          refine Ev.Vi0 (I' := jX2_pollByte) ml_X4_119 dX4_giveByte_46 cyX2_pollByte (lx_dev (by omega) (by omega)) rfl (by decide) ⟨by decide, by decide⟩ (by simp) rfl rfl (s_X2_pollByte (by omega) (by omega) (by unfold ev_in; omega)) (fun r σ' hr46 hq => ?_)
          obtain ⟨rfl, hq⟩ := hq
          replace hq := hq.symm
          subst hq
          try rw [e7]
          rw [show x_pb (σ 7) (x_gt σ) = x_gv σ by unfold x_gv; rw [if_neg (by omega)]]
          refine Ev.istore2 rfl dX4_giveByte_49 ?_
          refine Ev.aload_n dX4_giveByte_50 rfl ?_
          refine Ev.getr (50) dX4_giveByte_51 fl_X4_18 lx_0 (by decide) rfl rfl ?_
          refine Ev.aload_n dX4_giveByte_54 rfl ?_
          refine Ev.geti (7) dX4_giveByte_55 fl_X4_89 lx_0 (by decide) rfl rfl ?_
          try rw [e7]
          refine Ev.aald dX4_giveByte_58 lx_50 (by omega) (by omega) ?_
          refine Ev.iconst dX4_giveByte_59 ⟨by decide, by decide⟩ ?_
          refine Ev.putz (_ + 8) dX4_giveByte_60 fl_X4_125 ft_2_8 (lx_dev (by omega) (by omega)) (by decide) rfl rfl (by omega) ?_
          refine Ev.goto (tgt := 82) dX4_giveByte_63 rfl ?_
          refine Ev.iconst dX4_giveByte_82 ⟨by decide, by decide⟩ ?_
          refine Ev.istore3 rfl dX4_giveByte_83 ?_
          exact loop (σ 4).toNat 0 _ _ (by omega) (by show _ = x_g2 σ; unfold x_g2; first | rw [if_pos (by omega)] | rw [if_neg (by omega)])
      · skip
        first | exact absurd c8 hs | (exfalso; omega)
theorem s_X4_give {b : Int} {σ : ev_M} (hX : XI b σ) (hb : b ≤ 800000000) : Ev jX4_give layX 0 [some (rv 0)] [] σ (fun r σ' => (r, σ') = x_give σ) := by
  refine Ev.aload_n dX4_give_0 rfl ?_
  refine Ev.Vi0 (I' := jX4_giveByte) ml_X4_73 dX4_give_1 cyX4_giveByte lx_0 rfl (by decide) ⟨by decide, by decide⟩ (by simp) rfl rfl (s_X4_giveByte hX hb) (fun r σ' hr1 hq => ?_)
  skip
  refine Ev.int rfl dX4_give_4 ?_
  exact hq
def x_sad (g d : Int) (σ : ev_M) : ev_M := if x_send (g + σ (1000 + 100 * d + 3)) σ (1000 + 100 * d + 4) = 31 then x_send (g + σ (1000 + 100 * d + 3)) σ else x_send (96 + x_send (g + σ (1000 + 100 * d + 3)) σ (1000 + 100 * d + 4)) (x_send (g + σ (1000 + 100 * d + 3)) σ)
theorem s_X4_sendAddress {b g d : Int} {σ : ev_M} (hX : XI b σ) (hb : b ≤ 600000000) (hd0 : 0 ≤ d) (hd : d < 6) (hg0 : 0 ≤ g) (hg1 : g ≤ 64) : Ev jX4_sendAddress layX 0 [some (rv 0), some (iv g), some (iv d)] [] σ (fun _ σ' => σ' = x_sad g d σ) := by
  have a3 := hX.d3 hd0 hd
  have h1 := hX.send (c := g + σ (1000 + 100 * d + 3)) (by omega) (by omega) (by omega)
  have a4 := h1.d4 hd0 hd
  refine Ev.aload_n dX4_sendAddress_0 rfl ?_
  refine Ev.iload_n dX4_sendAddress_1 rfl ?_
  refine Ev.aload_n dX4_sendAddress_2 rfl ?_
  refine Ev.getr (50) dX4_sendAddress_3 fl_X4_18 lx_0 (by decide) rfl rfl ?_
  refine Ev.iload_n dX4_sendAddress_6 rfl ?_
  refine Ev.aald dX4_sendAddress_7 lx_50 (by omega) (by omega) ?_
  refine Ev.geti (_ + 3) dX4_sendAddress_8 fl_X4_197 (lx_dev (by omega) (by omega)) (by decide) rfl rfl ?_
  refine Ev.iadd dX4_sendAddress_11 (by unfold ev_in; omega) ?_
  refine Ev.Vv1 (I' := jX4_send) ml_X4_66 dX4_sendAddress_12 cyX4_send lx_0 rfl (by decide) ⟨by decide, by decide⟩ (by simp) rfl rfl (s_X4_send hX (by omega) (by omega) (by omega)) (fun σ' hq => ?_)
  subst hq
  refine Ev.aload_n dX4_sendAddress_15 rfl ?_
  refine Ev.getr (50) dX4_sendAddress_16 fl_X4_18 lx_0 (by decide) rfl rfl ?_
  refine Ev.iload_n dX4_sendAddress_19 rfl ?_
  refine Ev.aald dX4_sendAddress_20 lx_50 (by omega) (by omega) ?_
  refine Ev.geti (_ + 4) dX4_sendAddress_21 fl_X4_200 (lx_dev (by omega) (by omega)) (by decide) rfl rfl ?_
  refine Ev.bipush dX4_sendAddress_24 ⟨by decide, by decide⟩ (by decide) ?_
  refine Ev.icmp_eq (tgt := 45) dX4_sendAddress_26 rfl (fun c26 => ?_) (fun c26 => ?_)
  · skip
    refine Ev.vret dX4_sendAddress_45 rfl ?_
    unfold x_sad
    first | rw [if_pos (by omega)] | rw [if_neg (by omega)]
  · skip
    refine Ev.aload_n dX4_sendAddress_29 rfl ?_
    refine Ev.bipush dX4_sendAddress_30 ⟨by decide, by decide⟩ (by decide) ?_
    refine Ev.aload_n dX4_sendAddress_32 rfl ?_
    refine Ev.getr (50) dX4_sendAddress_33 fl_X4_18 lx_0 (by decide) rfl rfl ?_
    refine Ev.iload_n dX4_sendAddress_36 rfl ?_
    refine Ev.aald dX4_sendAddress_37 lx_50 (by omega) (by omega) ?_
    refine Ev.geti (_ + 4) dX4_sendAddress_38 fl_X4_200 (lx_dev (by omega) (by omega)) (by decide) rfl rfl ?_
    refine Ev.iadd dX4_sendAddress_41 (by unfold ev_in; omega) ?_
    refine Ev.Vv1 (I' := jX4_send) ml_X4_66 dX4_sendAddress_42 cyX4_send lx_0 rfl (by decide) ⟨by decide, by decide⟩ (by simp) rfl rfl (s_X4_send h1 (by omega) (by omega) (by omega)) (fun σ' hq => ?_)
    subst hq
    refine Ev.vret dX4_sendAddress_45 rfl ?_
    unfold x_sad
    first | rw [if_pos (by omega)] | rw [if_neg (by omega)]
theorem XI.sad {b g d : Int} {σ : ev_M} (h : XI b σ) (hb : b ≤ 600000000) (hd0 : 0 ≤ d) (hd : d < 6) (hg0 : 0 ≤ g) (hg1 : g ≤ 64) : XI (b + 44) (x_sad g d σ) := by
  have a3 := h.d3 hd0 hd
  have h1 := h.send (c := g + σ (1000 + 100 * d + 3)) (by omega) (by omega) (by omega)
  have a4 := h1.d4 hd0 hd
  unfold x_sad
  split
  · exact h1.mono (by omega)
  · exact (h1.send (by omega) (by omega) (by omega)).mono (by omega)
theorem x_sad_o {b g d n : Int} {σ : ev_M} (h : XI b σ) (hb : b ≤ 600000000) (hd0 : 0 ≤ d) (hd : d < 6) (hg0 : 0 ≤ g) (hg1 : g ≤ 64) (hn : n < 1000) (hx : n < 5 ∨ (9 < n ∧ n < 33) ∨ (48 ≤ n ∧ n < 100) ∨ 156 ≤ n) : x_sad g d σ n = σ n := by
  have a3 := h.d3 hd0 hd
  have h1 := h.send (c := g + σ (1000 + 100 * d + 3)) (by omega) (by omega) (by omega)
  have a4 := h1.d4 hd0 hd
  unfold x_sad
  split
  · exact x_send_o h (by omega) (by omega) (by omega) hn hx
  · rw [x_send_o h1 (by omega) (by omega) (by omega) hn hx, x_send_o h (by omega) (by omega) (by omega) hn hx]
def xpr (σ : ev_M) : Nat → Int × ev_M
  | 0 => (-4, σ)
  | k + 1 => if (xpr σ k).1 ≠ -4 then xpr σ k else if (k : Int) = (xpr σ k).2 6 then xpr σ k else (if 64 ≤ (x_give (x_sad 64 (k : Int) (xpr σ k).2)).1 then (k : Int) else -4, (x_give (x_sad 64 (k : Int) (xpr σ k).2)).2)
theorem xpr_inv {b : Int} {σ : ev_M} (h : XI b σ) (hb : b ≤ 500000000) : ∀ k : Nat, k ≤ 6 → XI (b + 68 * (k : Int)) (xpr σ k).2 ∧ (xpr σ k).2 4 = σ 4
  | 0, _ => ⟨by rw [show b + 68 * ((0 : Nat) : Int) = b by simp]; exact h, rfl⟩
  | k + 1, hk => by
    obtain ⟨i1, i2⟩ := xpr_inv h hb k (by omega)
    show XI _ (if (xpr σ k).1 ≠ -4 then xpr σ k else if (k : Int) = (xpr σ k).2 6 then xpr σ k else (if 64 ≤ (x_give (x_sad 64 (k : Int) (xpr σ k).2)).1 then (k : Int) else -4, (x_give (x_sad 64 (k : Int) (xpr σ k).2)).2)).2 ∧ (if (xpr σ k).1 ≠ -4 then xpr σ k else if (k : Int) = (xpr σ k).2 6 then xpr σ k else (if 64 ≤ (x_give (x_sad 64 (k : Int) (xpr σ k).2)).1 then (k : Int) else -4, (x_give (x_sad 64 (k : Int) (xpr σ k).2)).2)).2 4 = σ 4
    split
    · exact ⟨i1.mono (by omega), i2⟩
    · split
      · exact ⟨i1.mono (by omega), i2⟩
      · have s1 := i1.sad (d := (k : Int)) (g := 64) (by omega) (by omega) (by omega) (by decide) (by decide)
        refine ⟨(s1.give (by omega)).mono (by omega), ?_⟩
        show (x_give (x_sad 64 (k : Int) (xpr σ k).2)).2 4 = σ 4
        rw [x_give_o s1 (by omega) (by decide) (by decide), x_sad_o i1 (by omega) (by omega) (by omega) (by decide) (by decide) (by decide) (by decide), i2]
theorem xpr_stay {σ : ev_M} {k : Nat} (h : (xpr σ k).1 ≠ -4) : ∀ j : Nat, xpr σ (k + j) = xpr σ k
  | 0 => rfl
  | j + 1 => by
    show (if (xpr σ (k + j)).1 ≠ -4 then xpr σ (k + j) else _) = _
    rw [xpr_stay h j, if_pos h]
def x_pl1 (σ : ev_M) : ev_M := x_send 63 (ev_up σ 44 (σ 44 + 1))
def x_pl2 (σ : ev_M) : ev_M := x_send 24 (x_sad 32 (x_pl1 σ 6) (x_pl1 σ))
def x_pl3 (σ : ev_M) : ev_M := x_send 95 (x_send 25 (xpr (x_pl2 σ) (σ 4).toNat).2)
def x_poll (σ : ev_M) : Int × ev_M := ((xpr (x_pl2 σ) (σ 4).toNat).1, if (xpr (x_pl2 σ) (σ 4).toNat).1 = -4 then x_pl3 σ else ev_up (x_pl3 σ) 45 (x_pl3 σ 45 + 1))
theorem XI.pl0 {b : Int} {σ : ev_M} (h : XI b σ) : XI (b + 1) (ev_up σ 44 (σ 44 + 1)) := by
  have := h.sum (n := 44) (by decide)
  exact (h.mono (by omega)).usum (by decide) (by omega) (by omega)
theorem XI.pl1 {b : Int} {σ : ev_M} (h : XI b σ) (hb : b ≤ 400000000) : XI (b + 23) (x_pl1 σ) ∧ x_pl1 σ 4 = σ 4 :=
  ⟨(h.pl0.send (by omega) (by decide) (by decide)).mono (by omega), by unfold x_pl1; rw [x_send_o h.pl0 (by omega) (by decide) (by decide) (by decide) (by decide), ev_up_ne (by decide)]⟩
theorem XI.pl2 {b : Int} {σ : ev_M} (h : XI b σ) (hb : b ≤ 400000000) : XI (b + 89) (x_pl2 σ) ∧ x_pl2 σ 4 = σ 4 := by
  obtain ⟨h1, e1⟩ := h.pl1 hb
  have h6 := h1.s6
  have h3 := h1.sad (d := x_pl1 σ 6) (g := 32) (by omega) (by omega) (by omega) (by decide) (by decide)
  refine ⟨(h3.send (by omega) (by decide) (by decide)).mono (by omega), ?_⟩
  unfold x_pl2
  rw [x_send_o h3 (by omega) (by decide) (by decide) (by decide) (by decide), x_sad_o h1 (by omega) (by omega) (by omega) (by decide) (by decide) (by decide) (by decide), e1]
theorem s_X4_poll {b : Int} {σ : ev_M} (hX : XI b σ) (hb : b ≤ 400000000) : Ev jX4_poll layX 0 [some (rv 0), none, none] [] σ (fun r σ' => (r, σ') = x_poll σ) := by
  have h4 := hX.s4
  have hnn := hX.nat4
  have a44 := hX.sum (n := 44) (by decide)
  obtain ⟨h1, e1⟩ := hX.pl1 hb
  have a6 := h1.s6
  have h1' := h1.sad (d := x_pl1 σ 6) (g := 32) (by omega) (by omega) (by omega) (by decide) (by decide)
  obtain ⟨h3, e3⟩ := hX.pl2 hb
  have tail : ∀ (f : Int) (ρ : ev_M) (v2 : Option ev_V), (f, ρ) = xpr (x_pl2 σ) (σ 4).toNat → Ev jX4_poll layX 83 [some (rv 0), some (iv f), v2] [] ρ (fun r σ' => (r, σ') = x_poll σ) := by
    intro f ρ v2 hf
    have hMr := (xpr_inv h3 (by omega) (σ 4).toNat hnn).1
    rw [← hf] at hMr
    have hMr : XI (b + 2000) ρ := XI.mono hMr (by omega)
    have hM4 := hMr.send (c := 25) (by omega) (by decide) (by decide)
    have hM5 := hM4.send (c := 95) (by omega) (by decide) (by decide)
    have a45 := hM5.sum (n := 45) (by decide)
    refine Ev.aload_n dX4_poll_83 rfl ?_
    refine Ev.bipush dX4_poll_84 ⟨by decide, by decide⟩ (by decide) ?_
    refine Ev.Vv1 (I' := jX4_send) ml_X4_66 dX4_poll_86 cyX4_send lx_0 rfl (by decide) ⟨by decide, by decide⟩ (by simp) rfl rfl (s_X4_send hMr (by omega) (by decide) (by decide)) (fun σ' hq => ?_)
    subst hq
    refine Ev.aload_n dX4_poll_89 rfl ?_
    refine Ev.bipush dX4_poll_90 ⟨by decide, by decide⟩ (by decide) ?_
    refine Ev.Vv1 (I' := jX4_send) ml_X4_66 dX4_poll_92 cyX4_send lx_0 rfl (by decide) ⟨by decide, by decide⟩ (by simp) rfl rfl (s_X4_send hM4 (by omega) (by decide) (by decide)) (fun σ' hq => ?_)
    subst hq
    refine Ev.iload_n dX4_poll_95 rfl ?_
    refine Ev.bipush dX4_poll_96 ⟨by decide, by decide⟩ (by decide) ?_
    refine Ev.icmp_eq (tgt := 111) dX4_poll_98 rfl (fun c98 => ?_) (fun c98 => ?_)
    · skip
      refine Ev.iload_n dX4_poll_111 rfl ?_
      refine Ev.int rfl dX4_poll_112 ?_
      unfold x_poll x_pl3
      rw [← hf]
      first | rw [if_pos (by omega)] | rw [if_neg (by omega)]
    · skip
      refine Ev.aload_n dX4_poll_101 rfl ?_
      refine Ev.getr (40) dX4_poll_102 fl_X4_30 lx_0 (by decide) rfl rfl ?_
      refine Ev.iconst dX4_poll_105 ⟨by decide, by decide⟩ ?_
      refine Ev.dup2 dX4_poll_106 ?_
      refine Ev.ialdn (45) dX4_poll_107 lx_40 (Or.inl rfl) (by decide) (by decide) rfl ?_
      refine Ev.iconst dX4_poll_108 ⟨by decide, by decide⟩ ?_
      refine Ev.iadd dX4_poll_109 (by unfold ev_in; omega) ?_
      refine Ev.iastn (45) dX4_poll_110 lx_40 (by decide) (by decide) rfl ?_
      refine Ev.iload_n dX4_poll_111 rfl ?_
      refine Ev.int rfl dX4_poll_112 ?_
      unfold x_poll x_pl3
      rw [← hf]
      first | rw [if_pos (by omega)] | rw [if_neg (by omega)]
  have loop : ∀ (j k : Nat) (f : Int) (ρ : ev_M), (k : Int) + j = σ 4 → (f, ρ) = xpr (x_pl2 σ) k → Ev jX4_poll layX 37 [some (rv 0), some (iv f), some (iv (k : Int))] [] ρ (fun r σ' => (r, σ') = x_poll σ) := by
    intro j
    induction j with
    | zero =>
      intro k f ρ hk hf
      obtain ⟨i1, i2⟩ := xpr_inv h3 (by omega) k (by omega)
      rw [← hf] at i1 i2
      have i2 : ρ 4 = x_pl2 σ 4 := i2
      refine Ev.iload_n dX4_poll_37 rfl ?_
      refine Ev.aload_n dX4_poll_38 rfl ?_
      refine Ev.geti (4) dX4_poll_39 fl_X4_63 lx_0 (by decide) rfl rfl ?_
      refine Ev.icmp_ge (tgt := 83) dX4_poll_42 rfl (fun c42 => ?_) (fun c42 => ?_)
      · skip
        exact tail f ρ _ (by rw [hf, show (σ 4).toNat = k by omega])
      · skip
        exact absurd c42 (by omega)
    | succ j ih =>
      intro k f ρ hk hf
      obtain ⟨i1, i2⟩ := xpr_inv h3 (by omega) k (by omega)
      have st := xpr_stay (σ := x_pl2 σ) (k := k)
      have un : xpr (x_pl2 σ) (k + 1) = (if (xpr (x_pl2 σ) k).1 ≠ -4 then xpr (x_pl2 σ) k else if (k : Int) = (xpr (x_pl2 σ) k).2 6 then xpr (x_pl2 σ) k else (if 64 ≤ (x_give (x_sad 64 (k : Int) (xpr (x_pl2 σ) k).2)).1 then (k : Int) else -4, (x_give (x_sad 64 (k : Int) (xpr (x_pl2 σ) k).2)).2)) := rfl
      rw [← hf] at i1 i2 st un
      have i1 : XI (b + 89 + 68 * (k : Int)) ρ := i1
      have i2 : ρ 4 = x_pl2 σ 4 := i2
      have i6 := i1.sad (d := (k : Int)) (g := 64) (by omega) (by omega) (by omega) (by decide) (by decide)
      dsimp only at st un
      refine Ev.iload_n dX4_poll_37 rfl ?_
      refine Ev.aload_n dX4_poll_38 rfl ?_
      refine Ev.geti (4) dX4_poll_39 fl_X4_63 lx_0 (by decide) rfl rfl ?_
      refine Ev.icmp_ge (tgt := 83) dX4_poll_42 rfl (fun c42 => ?_) (fun c42 => ?_)
      · skip
        exact absurd c42 (by omega)
      · skip
        refine Ev.iload_n dX4_poll_45 rfl ?_
        refine Ev.bipush dX4_poll_46 ⟨by decide, by decide⟩ (by decide) ?_
        refine Ev.icmp_ne (tgt := 83) dX4_poll_48 rfl (fun c48 => ?_) (fun c48 => ?_)
        · skip
          exact tail f ρ _ (by rw [show (σ 4).toNat = k + (j + 1) by omega, st c48 (j + 1)])
        · skip
          refine Ev.iload_n dX4_poll_51 rfl ?_
          refine Ev.aload_n dX4_poll_52 rfl ?_
          refine Ev.geti (6) dX4_poll_53 fl_X4_79 lx_0 (by decide) rfl rfl ?_
          refine Ev.icmp_eq (tgt := 77) dX4_poll_56 rfl (fun c56 => ?_) (fun c56 => ?_)
          · skip
            refine Ev.iinc2 dX4_poll_77 (by unfold ev_in; omega) ?_
            refine Ev.goto (tgt := 37) dX4_poll_80 rfl ?_
            refine ih (k + 1) _ _ (by omega) ?_
            rw [un, if_neg (by omega)]
            first | rw [if_pos (by omega)] | (rw [if_neg (by omega), ← hg1, ← hg2]; first | rw [if_pos (by omega)] | (rw [if_neg (by omega)]; first | rfl | rw [c48]))
          · skip
            refine Ev.aload_n dX4_poll_59 rfl ?_
            refine Ev.bipush dX4_poll_60 ⟨by decide, by decide⟩ (by decide) ?_
            refine Ev.iload_n dX4_poll_62 rfl ?_
            refine Ev.Vv2 (I' := jX4_sendAddress) ml_X4_82 dX4_poll_63 cyX4_sendAddress lx_0 rfl (by decide) ⟨by decide, by decide⟩ (by simp) rfl rfl (s_X4_sendAddress i1 (by omega) (by omega) (by omega) (by decide) (by decide)) (fun σ' hq => ?_)
            subst hq
            refine Ev.aload_n dX4_poll_66 rfl ?_
            refine Ev.Vi0 (I' := jX4_giveByte) ml_X4_73 dX4_poll_67 cyX4_giveByte lx_0 rfl (by decide) ⟨by decide, by decide⟩ (by simp) rfl rfl (s_X4_giveByte i6 (by omega)) (fun r σ' hr67 hq => ?_)
            have hg1 : r = (x_give (x_sad 64 (k : Int) ρ)).1 := congrArg Prod.fst hq
            have hg2 : σ' = (x_give (x_sad 64 (k : Int) ρ)).2 := congrArg Prod.snd hq
            clear hq
            refine Ev.bipush dX4_poll_70 ⟨by decide, by decide⟩ (by decide) ?_
            refine Ev.icmp_lt (tgt := 77) dX4_poll_72 rfl (fun c72 => ?_) (fun c72 => ?_)
            · skip
              refine Ev.iinc2 dX4_poll_77 (by unfold ev_in; omega) ?_
              refine Ev.goto (tgt := 37) dX4_poll_80 rfl ?_
              refine ih (k + 1) _ _ (by omega) ?_
              rw [un, if_neg (by omega)]
              first | rw [if_pos (by omega)] | (rw [if_neg (by omega), ← hg1, ← hg2]; first | rw [if_pos (by omega)] | (rw [if_neg (by omega)]; first | rfl | rw [c48]))
            · skip
              refine Ev.iload_n dX4_poll_75 rfl ?_
              refine Ev.istore1 rfl dX4_poll_76 ?_
              refine Ev.iinc2 dX4_poll_77 (by unfold ev_in; omega) ?_
              refine Ev.goto (tgt := 37) dX4_poll_80 rfl ?_
              refine ih (k + 1) _ _ (by omega) ?_
              rw [un, if_neg (by omega)]
              first | rw [if_pos (by omega)] | (rw [if_neg (by omega), ← hg1, ← hg2]; first | rw [if_pos (by omega)] | (rw [if_neg (by omega)]; first | rfl | rw [c48]))
  refine Ev.aload_n dX4_poll_0 rfl ?_
  refine Ev.getr (40) dX4_poll_1 fl_X4_30 lx_0 (by decide) rfl rfl ?_
  refine Ev.iconst dX4_poll_4 ⟨by decide, by decide⟩ ?_
  refine Ev.dup2 dX4_poll_5 ?_
  refine Ev.ialdn (44) dX4_poll_6 lx_40 (Or.inl rfl) (by decide) (by decide) rfl ?_
  refine Ev.iconst dX4_poll_7 ⟨by decide, by decide⟩ ?_
  refine Ev.iadd dX4_poll_8 (by unfold ev_in; omega) ?_
  refine Ev.iastn (44) dX4_poll_9 lx_40 (by decide) (by decide) rfl ?_
  refine Ev.aload_n dX4_poll_10 rfl ?_
  refine Ev.bipush dX4_poll_11 ⟨by decide, by decide⟩ (by decide) ?_
  refine Ev.Vv1 (I' := jX4_send) ml_X4_66 dX4_poll_13 cyX4_send lx_0 rfl (by decide) ⟨by decide, by decide⟩ (by simp) rfl rfl (s_X4_send hX.pl0 (by omega) (by decide) (by decide)) (fun σ' hq => ?_)
  subst hq
  rw [show x_send 63 (ev_up σ 44 (σ 44 + 1)) = x_pl1 σ from rfl]
  refine Ev.aload_n dX4_poll_16 rfl ?_
  refine Ev.bipush dX4_poll_17 ⟨by decide, by decide⟩ (by decide) ?_
  refine Ev.aload_n dX4_poll_19 rfl ?_
  refine Ev.geti (6) dX4_poll_20 fl_X4_79 lx_0 (by decide) rfl rfl ?_
  refine Ev.Vv2 (I' := jX4_sendAddress) ml_X4_82 dX4_poll_23 cyX4_sendAddress lx_0 rfl (by decide) ⟨by decide, by decide⟩ (by simp) rfl rfl (s_X4_sendAddress h1 (by omega) (by omega) (by omega) (by decide) (by decide)) (fun σ' hq => ?_)
  subst hq
  refine Ev.aload_n dX4_poll_26 rfl ?_
  refine Ev.bipush dX4_poll_27 ⟨by decide, by decide⟩ (by decide) ?_
  refine Ev.Vv1 (I' := jX4_send) ml_X4_66 dX4_poll_29 cyX4_send lx_0 rfl (by decide) ⟨by decide, by decide⟩ (by simp) rfl rfl (s_X4_send h1' (by omega) (by decide) (by decide)) (fun σ' hq => ?_)
  subst hq
  rw [show x_send 24 (x_sad 32 (x_pl1 σ 6) (x_pl1 σ)) = x_pl2 σ from rfl]
  refine Ev.bipush dX4_poll_32 ⟨by decide, by decide⟩ (by decide) ?_
  refine Ev.istore1 rfl dX4_poll_34 ?_
  refine Ev.iconst dX4_poll_35 ⟨by decide, by decide⟩ ?_
  refine Ev.istore2 rfl dX4_poll_36 ?_
  exact loop (σ 4).toNat 0 _ _ (by omega) rfl
