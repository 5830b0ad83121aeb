/-! the class: rows of bytes, the log, one device -/
theorem s_X4_bit {a : Int} {σ : ev_M} (h : a = 0 ∨ a = 1) : Ev jX4_bit layX 0 [some (iv a)] [] σ (fun r σ' => r = a ∧ σ' = σ) := by
  refine Ev.iload_n dX4_bit_0 rfl ?_
  refine Ev.if_eq (tgt := 8) dX4_bit_1 rfl (fun c1 => ?_) (fun c1 => ?_)
  · skip
    refine Ev.iconst dX4_bit_8 ⟨by decide, by decide⟩ ?_
    refine Ev.int rfl dX4_bit_9 ?_
    exact ⟨by omega, rfl⟩
  · skip
    refine Ev.iconst dX4_bit_4 ⟨by decide, by decide⟩ ?_
    refine Ev.goto (tgt := 9) dX4_bit_5 rfl ?_
    refine Ev.int rfl dX4_bit_9 ?_
    exact ⟨by omega, rfl⟩
def x_app (o v : Int) (σ : ev_M) : Int × ev_M := if 12 ≤ σ (o + 1) then (-3, σ) else (σ (o + 1) + 1, ev_up (ev_up σ (o + 10 + σ (o + 1)) v) (o + 1) (σ (o + 1) + 1))
theorem s_X0_append {o v : Int} {σ : ev_M} (hm : (o, 2, 0, 0) ∈ layX) (hb : (o + 10, 12, 1, 0) ∈ layX) (h0 : 0 ≤ σ (o + 1)) (h1 : σ (o + 1) ≤ 12) : Ev jX0_append layX 0 [some (rv o), some (iv v)] [] σ (fun r σ' => (r, σ') = x_app o v σ) := by
  refine Ev.aload_n dX0_append_0 rfl ?_
  refine Ev.geti (_ + 1) dX0_append_1 fl_X0_15 (by assumption) (by decide) rfl rfl ?_
  refine Ev.bipush dX0_append_4 ⟨by decide, by decide⟩ (by decide) ?_
  refine Ev.icmp_lt (tgt := 12) dX0_append_6 rfl (fun c6 => ?_) (fun c6 => ?_)
  · skip
    refine Ev.aload_n dX0_append_12 rfl ?_
    refine Ev.getr (_ + 10) dX0_append_13 fl_X0_9 (by assumption) (by decide) rfl rfl ?_
    refine Ev.aload_n dX0_append_16 rfl ?_
    refine Ev.geti (_ + 1) dX0_append_17 fl_X0_15 (by assumption) (by decide) rfl rfl ?_
    refine Ev.iload_n dX0_append_20 rfl ?_
    refine Ev.iast dX0_append_21 (by assumption) (by omega) (by omega) ?_
    refine Ev.aload_n dX0_append_22 rfl ?_
    refine Ev.dup dX0_append_23 ?_
    refine Ev.geti (_ + 1) dX0_append_24 fl_X0_15 (by assumption) (by decide) rfl rfl ?_
    try simp (disch := omega) only [ev_up_ne, ev_up_eqs]
    refine Ev.iconst dX0_append_27 ⟨by decide, by decide⟩ ?_
    refine Ev.iadd dX0_append_28 (by unfold ev_in; omega) ?_
    refine Ev.puti (_ + 1) dX0_append_29 fl_X0_15 ft_0_1 (by assumption) (by decide) rfl rfl ?_
    refine Ev.aload_n dX0_append_32 rfl ?_
    refine Ev.geti (_ + 1) dX0_append_33 fl_X0_15 (by assumption) (by decide) rfl rfl ?_
    try simp (disch := omega) only [ev_up_ne, ev_up_eqs]
    refine Ev.int rfl dX0_append_36 ?_
    unfold x_app
    first | rw [if_pos (by omega)] | rw [if_neg (by omega)]
  · skip
    refine Ev.bipush dX0_append_9 ⟨by decide, by decide⟩ (by decide) ?_
    refine Ev.int rfl dX0_append_11 ?_
    unfold x_app
    first | rw [if_pos (by omega)] | rw [if_neg (by omega)]
def x_rmv (o : Int) (σ : ev_M) : Int × ev_M := if σ (o + 1) = 0 then (-4, σ) else (σ (o + 10 + 0), m_sh (o + 10) (σ (o + 1) - 1) (ev_up σ (o + 1) (σ (o + 1) - 1)))
theorem s_X0_removeFirst {o : Int} {σ : ev_M} (hm : (o, 2, 0, 0) ∈ layX) (hb : (o + 10, 12, 1, 0) ∈ layX) (h0 : 0 ≤ σ (o + 1)) (h1 : σ (o + 1) ≤ 12) : Ev jX0_removeFirst layX 0 [some (rv o), none, none] [] σ (fun r σ' => (r, σ') = x_rmv o σ) := by
  have loop : ∀ (j k : Nat) (ρ : ev_M), (k : Int) + j = σ (o + 1) - 1 → ρ = m_sh (o + 10) (k : Int) (ev_up σ (o + 1) (σ (o + 1) - 1)) → Ev jX0_removeFirst layX 29 [some (rv o), some (iv (σ (o + 10 + 0))), some (iv (k : Int))] [] ρ (fun r σ' => (r, σ') = x_rmv o σ) := by
    intro j
    induction j with
    | zero =>
      intro k ρ hk hρ
      have em : ρ (o + 1) = σ (o + 1) - 1 := by rw [hρ, sh_o (by omega), ev_up_eq]
      refine Ev.iload_n dX0_removeFirst_29 rfl ?_
      refine Ev.aload_n dX0_removeFirst_30 rfl ?_
      refine Ev.geti (_ + 1) dX0_removeFirst_31 fl_X0_15 (by assumption) (by decide) rfl rfl ?_
      refine Ev.icmp_ge (tgt := 57) dX0_removeFirst_34 rfl (fun c34 => ?_) (fun c34 => ?_)
      · skip
        refine Ev.iload_n dX0_removeFirst_57 rfl ?_
        refine Ev.int rfl dX0_removeFirst_58 ?_
        unfold x_rmv
        rw [if_neg (by omega), hρ, show σ (o + 1) - 1 = (k : Int) by omega]
      · skip
        exact absurd c34 (by omega)
    | succ j ih =>
      intro k ρ hk hρ
      have em : ρ (o + 1) = σ (o + 1) - 1 := by rw [hρ, sh_o (by omega), ev_up_eq]
      have er : ρ (o + 10 + ((k : Int) + 1)) = ev_up σ (o + 1) (σ (o + 1) - 1) (o + 10 + (k : Int) + 1) := by rw [hρ, sh_o (by omega)]; congr 1; omega
      refine Ev.iload_n dX0_removeFirst_29 rfl ?_
      refine Ev.aload_n dX0_removeFirst_30 rfl ?_
      refine Ev.geti (_ + 1) dX0_removeFirst_31 fl_X0_15 (by assumption) (by decide) rfl rfl ?_
      refine Ev.icmp_ge (tgt := 57) dX0_removeFirst_34 rfl (fun c34 => ?_) (fun c34 => ?_)
      · skip
        exact absurd c34 (by omega)
      · skip
        refine Ev.aload_n dX0_removeFirst_37 rfl ?_
        refine Ev.getr (_ + 10) dX0_removeFirst_38 fl_X0_9 (by assumption) (by decide) rfl rfl ?_
        refine Ev.iload_n dX0_removeFirst_41 rfl ?_
        refine Ev.aload_n dX0_removeFirst_42 rfl ?_
        refine Ev.getr (_ + 10) dX0_removeFirst_43 fl_X0_9 (by assumption) (by decide) rfl rfl ?_
        refine Ev.iload_n dX0_removeFirst_46 rfl ?_
        refine Ev.iconst dX0_removeFirst_47 ⟨by decide, by decide⟩ ?_
        refine Ev.iadd dX0_removeFirst_48 (by unfold ev_in; omega) ?_
        refine Ev.iald dX0_removeFirst_49 (by assumption) (Or.inl rfl) (by omega) (by omega) ?_
        refine Ev.iast dX0_removeFirst_50 (by assumption) (by omega) (by omega) ?_
        refine Ev.iinc2 dX0_removeFirst_51 (by unfold ev_in; omega) ?_
        refine Ev.goto (tgt := 29) dX0_removeFirst_54 rfl ?_
        refine ih (k + 1) _ (by omega) ?_
        rw [er, hρ]
        exact sh_s (by omega)
  refine Ev.aload_n dX0_removeFirst_0 rfl ?_
  refine Ev.geti (_ + 1) dX0_removeFirst_1 fl_X0_15 (by assumption) (by decide) rfl rfl ?_
  refine Ev.if_ne (tgt := 10) dX0_removeFirst_4 rfl (fun c4 => ?_) (fun c4 => ?_)
  · skip
    refine Ev.aload_n dX0_removeFirst_10 rfl ?_
    refine Ev.getr (_ + 10) dX0_removeFirst_11 fl_X0_9 (by assumption) (by decide) rfl rfl ?_
    refine Ev.iconst dX0_removeFirst_14 ⟨by decide, by decide⟩ ?_
    refine Ev.iald dX0_removeFirst_15 (by assumption) (Or.inl rfl) (by omega) (by omega) ?_
    refine Ev.istore1 rfl dX0_removeFirst_16 ?_
    refine Ev.aload_n dX0_removeFirst_17 rfl ?_
    refine Ev.dup dX0_removeFirst_18 ?_
    refine Ev.geti (_ + 1) dX0_removeFirst_19 fl_X0_15 (by assumption) (by decide) rfl rfl ?_
    refine Ev.iconst dX0_removeFirst_22 ⟨by decide, by decide⟩ ?_
    refine Ev.isub dX0_removeFirst_23 (by unfold ev_in; omega) ?_
    refine Ev.puti (_ + 1) dX0_removeFirst_24 fl_X0_15 ft_0_1 (by assumption) (by decide) rfl rfl ?_
    refine Ev.iconst dX0_removeFirst_27 ⟨by decide, by decide⟩ ?_
    refine Ev.istore2 rfl dX0_removeFirst_28 ?_
    exact loop (σ (o + 1) - 1).toNat 0 _ (by omega) sh_0.symm
  · skip
    refine Ev.bipush dX0_removeFirst_7 ⟨by decide, by decide⟩ (by decide) ?_
    refine Ev.int rfl dX0_removeFirst_9 ?_
    unfold x_rmv
    rw [if_pos (by omega)]
def x_at (o i : Int) (σ : ev_M) : Int := if 0 ≤ i ∧ i < σ (o + 1) then σ (o + 10 + i) else -4
theorem s_X0_at {o i : Int} {σ : ev_M} (hm : (o, 2, 0, 0) ∈ layX) (hb : (o + 10, 12, 1, 0) ∈ layX) (h1 : σ (o + 1) ≤ 12) : Ev jX0_at layX 0 [some (rv o), some (iv i)] [] σ (fun r σ' => r = x_at o i σ ∧ σ' = σ) := by
  refine Ev.iload_n dX0_at_0 rfl ?_
  refine Ev.if_lt (tgt := 21) dX0_at_1 rfl (fun c1 => ?_) (fun c1 => ?_)
  · skip
    refine Ev.bipush dX0_at_21 ⟨by decide, by decide⟩ (by decide) ?_
    refine Ev.int rfl dX0_at_23 ?_
    refine ⟨?_, rfl⟩
    unfold x_at
    first | rw [if_pos (by omega)] | rw [if_neg (by omega)]
  · skip
    refine Ev.iload_n dX0_at_4 rfl ?_
    refine Ev.aload_n dX0_at_5 rfl ?_
    refine Ev.geti (_ + 1) dX0_at_6 fl_X0_15 (by assumption) (by decide) rfl rfl ?_
    refine Ev.icmp_ge (tgt := 21) dX0_at_9 rfl (fun c9 => ?_) (fun c9 => ?_)
    · skip
      refine Ev.bipush dX0_at_21 ⟨by decide, by decide⟩ (by decide) ?_
      refine Ev.int rfl dX0_at_23 ?_
      refine ⟨?_, rfl⟩
      unfold x_at
      first | rw [if_pos (by omega)] | rw [if_neg (by omega)]
    · skip
      refine Ev.aload_n dX0_at_12 rfl ?_
      refine Ev.getr (_ + 10) dX0_at_13 fl_X0_9 (by assumption) (by decide) rfl rfl ?_
      refine Ev.iload_n dX0_at_16 rfl ?_
      refine Ev.iald dX0_at_17 (by assumption) (Or.inl rfl) (by omega) (by omega) ?_
      refine Ev.goto (tgt := 23) dX0_at_18 rfl ?_
      refine Ev.int rfl dX0_at_23 ?_
      refine ⟨?_, rfl⟩
      unfold x_at
      first | rw [if_pos (by omega)] | rw [if_neg (by omega)]
theorem s_X0_empty {o : Int} {σ : ev_M} (hm : (o, 2, 0, 0) ∈ layX) : Ev jX0_empty layX 0 [some (rv o)] [] σ (fun _ σ' => σ' = ev_up σ (o + 1) 0) := by
  refine Ev.aload_n dX0_empty_0 rfl ?_
  refine Ev.iconst dX0_empty_1 ⟨by decide, by decide⟩ ?_
  refine Ev.puti (_ + 1) dX0_empty_2 fl_X0_15 ft_0_1 (by assumption) (by decide) rfl rfl ?_
  refine Ev.vret dX0_empty_5 rfl ?_
  rfl
theorem s_X1_empty {σ : ev_M} : Ev jX1_empty layX 0 [some (rv 30)] [] σ (fun _ σ' => σ' = ev_up (ev_up σ 33 0) 34 0) := by
  refine Ev.aload_n dX1_empty_0 rfl ?_
  refine Ev.iconst dX1_empty_1 ⟨by decide, by decide⟩ ?_
  refine Ev.puti (33) dX1_empty_2 fl_X1_21 ft_1_3 lx_30 (by decide) rfl rfl ?_
  refine Ev.aload_n dX1_empty_5 rfl ?_
  refine Ev.iconst dX1_empty_6 ⟨by decide, by decide⟩ ?_
  refine Ev.puti (34) dX1_empty_7 fl_X1_25 ft_1_4 lx_30 (by decide) rfl rfl ?_
  refine Ev.vret dX1_empty_10 rfl ?_
  rfl
def x_keep (t c h : Int) (σ : ev_M) : ev_M := ev_up (ev_up (ev_up (ev_up (ev_up σ (100 + σ 34) t) (120 + σ 34) c) (140 + σ 34) h) 34 ((σ 34 + 1) % 16)) 33 (if 16 < σ 33 + 1 then 16 else σ 33 + 1)
theorem s_X1_keep {t c h : Int} {σ : ev_M} (h0 : 0 ≤ σ 34) (h1 : σ 34 ≤ 15) (g0 : 0 ≤ σ 33) (g1 : σ 33 ≤ 16) : Ev jX1_keep layX 0 [some (rv 30), some (iv t), some (iv c), some (iv h)] [] σ (fun _ σ' => σ' = x_keep t c h σ) := by
  refine Ev.aload_n dX1_keep_0 rfl ?_
  refine Ev.getr (100) dX1_keep_1 fl_X1_9 lx_30 (by decide) rfl rfl ?_
  refine Ev.aload_n dX1_keep_4 rfl ?_
  refine Ev.geti (34) dX1_keep_5 fl_X1_25 lx_30 (by decide) rfl rfl ?_
  refine Ev.iload_n dX1_keep_8 rfl ?_
  refine Ev.iast dX1_keep_9 lx_100 (by omega) (by omega) ?_
  refine Ev.aload_n dX1_keep_10 rfl ?_
  refine Ev.getr (120) dX1_keep_11 fl_X1_15 lx_30 (by decide) rfl rfl ?_
  refine Ev.aload_n dX1_keep_14 rfl ?_
  refine Ev.geti (34) dX1_keep_15 fl_X1_25 lx_30 (by decide) rfl rfl ?_
  try simp (disch := omega) only [ev_up_ne, ev_up_eqs]
  refine Ev.iload_n dX1_keep_18 rfl ?_
  refine Ev.iast dX1_keep_19 lx_120 (by omega) (by omega) ?_
  refine Ev.aload_n dX1_keep_20 rfl ?_
  refine Ev.getr (140) dX1_keep_21 fl_X1_18 lx_30 (by decide) rfl rfl ?_
  refine Ev.aload_n dX1_keep_24 rfl ?_
  refine Ev.geti (34) dX1_keep_25 fl_X1_25 lx_30 (by decide) rfl rfl ?_
  try simp (disch := omega) only [ev_up_ne, ev_up_eqs]
  refine Ev.iload_n dX1_keep_28 rfl ?_
  refine Ev.iast dX1_keep_29 lx_140 (by omega) (by omega) ?_
  refine Ev.aload_n dX1_keep_30 rfl ?_
  refine Ev.aload_n dX1_keep_31 rfl ?_
  refine Ev.geti (34) dX1_keep_32 fl_X1_25 lx_30 (by decide) rfl rfl ?_
  try simp (disch := omega) only [ev_up_ne, ev_up_eqs]
  refine Ev.iconst dX1_keep_35 ⟨by decide, by decide⟩ ?_
  refine Ev.iadd dX1_keep_36 (by unfold ev_in; omega) ?_
  refine Ev.bipush dX1_keep_37 ⟨by decide, by decide⟩ (by decide) ?_
  refine Ev.irem dX1_keep_39 (by omega) (by decide) ?_
  refine Ev.puti (34) dX1_keep_40 fl_X1_25 ft_1_4 lx_30 (by decide) rfl rfl ?_
  refine Ev.aload_n dX1_keep_43 rfl ?_
  refine Ev.aload_n dX1_keep_44 rfl ?_
  refine Ev.geti (33) dX1_keep_45 fl_X1_21 lx_30 (by decide) rfl rfl ?_
  try simp (disch := omega) only [ev_up_ne, ev_up_eqs]
  refine Ev.iconst dX1_keep_48 ⟨by decide, by decide⟩ ?_
  refine Ev.iadd dX1_keep_49 (by unfold ev_in; omega) ?_
  refine Ev.bipush dX1_keep_50 ⟨by decide, by decide⟩ (by decide) ?_
  refine Ev.mmin dX1_keep_52 ml_X1_28 ms_min mi_math mc_min (by decide) (by simp) ?_
  refine Ev.puti (33) dX1_keep_55 fl_X1_21 ft_1_3 lx_30 (by decide) rfl rfl ?_
  refine Ev.vret dX1_keep_58 rfl ?_
  rfl
def x_tell (i a : Int) (σ : ev_M) : Int := if i < 0 ∨ σ 33 ≤ i then -4 else if a = 0 then σ (100 + (σ 34 + 16 - 1 - i) % 16) else if a = 1 then σ (120 + (σ 34 + 16 - 1 - i) % 16) else σ (140 + (σ 34 + 16 - 1 - i) % 16)
theorem s_X1_tell {i a : Int} {σ : ev_M} (h0 : 0 ≤ σ 34) (h1 : σ 34 ≤ 15) (g0 : 0 ≤ σ 33) (g1 : σ 33 ≤ 16) : Ev jX1_tell layX 0 [some (rv 30), some (iv i), some (iv a), none] [] σ (fun r σ' => r = x_tell i a σ ∧ σ' = σ) := by
  refine Ev.iload_n dX1_tell_0 rfl ?_
  refine Ev.if_lt (tgt := 12) dX1_tell_1 rfl (fun c1 => ?_) (fun c1 => ?_)
  · skip
    refine Ev.bipush dX1_tell_12 ⟨by decide, by decide⟩ (by decide) ?_
    refine Ev.int rfl dX1_tell_14 ?_
    refine ⟨?_, rfl⟩
    unfold x_tell
    repeat (first | rw [if_pos (by omega)] | rw [if_neg (by omega)])
  · skip
    refine Ev.iload_n dX1_tell_4 rfl ?_
    refine Ev.aload_n dX1_tell_5 rfl ?_
    refine Ev.geti (33) dX1_tell_6 fl_X1_21 lx_30 (by decide) rfl rfl ?_
    refine Ev.icmp_lt (tgt := 15) dX1_tell_9 rfl (fun c9 => ?_) (fun c9 => ?_)
    · skip
      refine Ev.aload_n dX1_tell_15 rfl ?_
      refine Ev.geti (34) dX1_tell_16 fl_X1_25 lx_30 (by decide) rfl rfl ?_
      refine Ev.bipush dX1_tell_19 ⟨by decide, by decide⟩ (by decide) ?_
      refine Ev.iadd dX1_tell_21 (by unfold ev_in; omega) ?_
      refine Ev.iconst dX1_tell_22 ⟨by decide, by decide⟩ ?_
      refine Ev.isub dX1_tell_23 (by unfold ev_in; omega) ?_
      refine Ev.iload_n dX1_tell_24 rfl ?_
      refine Ev.isub dX1_tell_25 (by unfold ev_in; omega) ?_
      refine Ev.bipush dX1_tell_26 ⟨by decide, by decide⟩ (by decide) ?_
      refine Ev.irem dX1_tell_28 (by omega) (by decide) ?_
      refine Ev.istore3 rfl dX1_tell_29 ?_
      refine Ev.iload_n dX1_tell_30 rfl ?_
      refine Ev.if_ne (tgt := 41) dX1_tell_31 rfl (fun c31 => ?_) (fun c31 => ?_)
      · skip
        refine Ev.iload_n dX1_tell_41 rfl ?_
        refine Ev.iconst dX1_tell_42 ⟨by decide, by decide⟩ ?_
        refine Ev.icmp_ne (tgt := 55) dX1_tell_43 rfl (fun c43 => ?_) (fun c43 => ?_)
        · skip
          refine Ev.aload_n dX1_tell_55 rfl ?_
          refine Ev.getr (140) dX1_tell_56 fl_X1_18 lx_30 (by decide) rfl rfl ?_
          refine Ev.iload_n dX1_tell_59 rfl ?_
          refine Ev.iald dX1_tell_60 lx_140 (Or.inl rfl) (by omega) (by omega) ?_
          refine Ev.int rfl dX1_tell_61 ?_
          refine ⟨?_, rfl⟩
          unfold x_tell
          repeat (first | rw [if_pos (by omega)] | rw [if_neg (by omega)])
        · skip
          refine Ev.aload_n dX1_tell_46 rfl ?_
          refine Ev.getr (120) dX1_tell_47 fl_X1_15 lx_30 (by decide) rfl rfl ?_
          refine Ev.iload_n dX1_tell_50 rfl ?_
          refine Ev.iald dX1_tell_51 lx_120 (Or.inl rfl) (by omega) (by omega) ?_
          refine Ev.goto (tgt := 61) dX1_tell_52 rfl ?_
          refine Ev.int rfl dX1_tell_61 ?_
          refine ⟨?_, rfl⟩
          unfold x_tell
          repeat (first | rw [if_pos (by omega)] | rw [if_neg (by omega)])
      · skip
        refine Ev.aload_n dX1_tell_34 rfl ?_
        refine Ev.getr (100) dX1_tell_35 fl_X1_9 lx_30 (by decide) rfl rfl ?_
        refine Ev.iload_n dX1_tell_38 rfl ?_
        refine Ev.iald dX1_tell_39 lx_100 (Or.inl rfl) (by omega) (by omega) ?_
        refine Ev.int rfl dX1_tell_40 ?_
        refine ⟨?_, rfl⟩
        unfold x_tell
        repeat (first | rw [if_pos (by omega)] | rw [if_neg (by omega)])
    · skip
      refine Ev.bipush dX1_tell_12 ⟨by decide, by decide⟩ (by decide) ?_
      refine Ev.int rfl dX1_tell_14 ?_
      refine ⟨?_, rfl⟩
      unfold x_tell
      repeat (first | rw [if_pos (by omega)] | rw [if_neg (by omega)])
def x_clear (i : Int) (σ : ev_M) : ev_M := ev_up (ev_up (ev_up (ev_up (ev_up σ (1000 + 100 * i + 20 + 1) 0) (1000 + 100 * i + 50 + 1) 0) (1000 + 100 * i + 7) 0) (1000 + 100 * i + 8) 0) (1000 + 100 * i + 17) (-4)
theorem s_X2_clear {i : Int} {σ : ev_M} (h0 : 0 ≤ i) (h1 : i < 6) : Ev jX2_clear layX 0 [some (rv (1000 + 100 * i))] [] σ (fun _ σ' => σ' = x_clear i σ) := by
  refine Ev.aload_n dX2_clear_0 rfl ?_
  refine Ev.getr (_ + 20) dX2_clear_1 fl_X2_12 (lx_dev (by omega) (by omega)) (by decide) rfl rfl ?_
  refine Ev.Vv0 (I' := jX0_empty) ml_X2_65 dX2_clear_4 cyX0_empty (lx_out (by omega) (by omega)) rfl (by decide) ⟨by decide, by decide⟩ (by simp) rfl rfl (s_X0_empty (lx_out h0 h1)) (fun σ' hq => ?_)
  subst hq
  refine Ev.aload_n dX2_clear_7 rfl ?_
  refine Ev.getr (_ + 50) dX2_clear_8 fl_X2_18 (lx_dev (by omega) (by omega)) (by decide) rfl rfl ?_
  refine Ev.Vv0 (I' := jX0_empty) ml_X2_65 dX2_clear_11 cyX0_empty (lx_inn (by omega) (by omega)) rfl (by decide) ⟨by decide, by decide⟩ (by simp) rfl rfl (s_X0_empty (lx_inn h0 h1)) (fun σ' hq => ?_)
  subst hq
  refine Ev.aload_n dX2_clear_14 rfl ?_
  refine Ev.iconst dX2_clear_15 ⟨by decide, by decide⟩ ?_
  refine Ev.puti (_ + 7) dX2_clear_16 fl_X2_68 ft_2_7 (lx_dev (by omega) (by omega)) (by decide) rfl rfl ?_
  refine Ev.aload_n dX2_clear_19 rfl ?_
  refine Ev.iconst dX2_clear_20 ⟨by decide, by decide⟩ ?_
  refine Ev.putz (_ + 8) dX2_clear_21 fl_X2_71 ft_2_8 (lx_dev (by omega) (by omega)) (by decide) rfl rfl (by omega) ?_
  refine Ev.aload_n dX2_clear_24 rfl ?_
  refine Ev.bipush dX2_clear_25 ⟨by decide, by decide⟩ (by decide) ?_
  refine Ev.puti (_ + 17) dX2_clear_27 fl_X2_74 ft_2_17 (lx_dev (by omega) (by omega)) (by decide) rfl rfl ?_
  refine Ev.vret dX2_clear_30 rfl ?_
  rfl
def x_bgl (i : Int) (σ : ev_M) : ev_M := ev_up (ev_up σ (1000 + 100 * i + 9) 1) (1000 + 100 * i + 10) 1
theorem s_X2_beginListening {i : Int} {σ : ev_M} (h0 : 0 ≤ i) (h1 : i < 6) : Ev jX2_beginListening layX 0 [some (rv (1000 + 100 * i))] [] σ (fun _ σ' => σ' = x_bgl i σ) := by
  refine Ev.aload_n dX2_beginListening_0 rfl ?_
  refine Ev.iconst dX2_beginListening_1 ⟨by decide, by decide⟩ ?_
  refine Ev.putz (_ + 9) dX2_beginListening_2 fl_X2_40 ft_2_9 (lx_dev (by omega) (by omega)) (by decide) rfl rfl (by omega) ?_
  refine Ev.aload_n dX2_beginListening_5 rfl ?_
  refine Ev.iconst dX2_beginListening_6 ⟨by decide, by decide⟩ ?_
  refine Ev.putz (_ + 10) dX2_beginListening_7 fl_X2_44 ft_2_10 (lx_dev (by omega) (by omega)) (by decide) rfl rfl (by omega) ?_
  refine Ev.vret dX2_beginListening_10 rfl ?_
  rfl
def x_btr (i n : Int) (σ : ev_M) : ev_M := if σ (1000 + 100 * i + 2) = 1 then ev_up (ev_up σ (1000 + 100 * i + 16) (if 999 < σ (1000 + 100 * i + 16) + 1 then 999 else σ (1000 + 100 * i + 16) + 1)) (1000 + 100 * i + 17) (n + σ (1000 + 100 * i + 6)) else ev_up σ (1000 + 100 * i + 16) (if 999 < σ (1000 + 100 * i + 16) + 1 then 999 else σ (1000 + 100 * i + 16) + 1)
theorem s_X2_beTriggered {i n : Int} {σ : ev_M} (h0 : 0 ≤ i) (h1 : i < 6) (hn : ev_in (n + σ (1000 + 100 * i + 6))) (ht : ev_in (σ (1000 + 100 * i + 16) + 1)) : Ev jX2_beTriggered layX 0 [some (rv (1000 + 100 * i)), some (iv n)] [] σ (fun _ σ' => σ' = x_btr i n σ) := by
  unfold ev_in at hn ht
  refine Ev.aload_n dX2_beTriggered_0 rfl ?_
  refine Ev.aload_n dX2_beTriggered_1 rfl ?_
  refine Ev.geti (_ + 16) dX2_beTriggered_2 fl_X2_62 (lx_dev (by omega) (by omega)) (by decide) rfl rfl ?_
  refine Ev.iconst dX2_beTriggered_5 ⟨by decide, by decide⟩ ?_
  refine Ev.iadd dX2_beTriggered_6 (by unfold ev_in; omega) ?_
  refine Ev.sipush dX2_beTriggered_7 ⟨by decide, by decide⟩ (by decide) ?_
  refine Ev.mmin dX2_beTriggered_10 ml_X2_77 ms_min mi_math mc_min (by decide) (by simp) ?_
  refine Ev.puti (_ + 16) dX2_beTriggered_13 fl_X2_62 ft_2_16 (lx_dev (by omega) (by omega)) (by decide) rfl rfl ?_
  refine Ev.aload_n dX2_beTriggered_16 rfl ?_
  refine Ev.geti (_ + 2) dX2_beTriggered_17 fl_X2_21 (lx_dev (by omega) (by omega)) (by decide) rfl rfl ?_
  try simp (disch := omega) only [ev_up_ne, ev_up_eqs]
  refine Ev.iconst dX2_beTriggered_20 ⟨by decide, by decide⟩ ?_
  refine Ev.icmp_ne (tgt := 34) dX2_beTriggered_21 rfl (fun c21 => ?_) (fun c21 => ?_)
  · skip
    refine Ev.vret dX2_beTriggered_34 rfl ?_
    first | (have e : x_btr i n σ = _ := if_pos (by omega); exact e.symm) | (have e : x_btr i n σ = _ := if_neg (by omega); exact e.symm)
  · skip
    refine Ev.aload_n dX2_beTriggered_24 rfl ?_
    refine Ev.iload_n dX2_beTriggered_25 rfl ?_
    refine Ev.aload_n dX2_beTriggered_26 rfl ?_
    refine Ev.geti (_ + 6) dX2_beTriggered_27 fl_X2_34 (lx_dev (by omega) (by omega)) (by decide) rfl rfl ?_
    try simp (disch := omega) only [ev_up_ne, ev_up_eqs]
    refine Ev.iadd dX2_beTriggered_30 (by unfold ev_in; omega) ?_
    refine Ev.puti (_ + 17) dX2_beTriggered_31 fl_X2_74 ft_2_17 (lx_dev (by omega) (by omega)) (by decide) rfl rfl ?_
    refine Ev.vret dX2_beTriggered_34 rfl ?_
    first | (have e : x_btr i n σ = _ := if_pos (by omega); exact e.symm) | (have e : x_btr i n σ = _ := if_neg (by omega); exact e.symm)
theorem s_X2_isDueBy {i n : Int} {σ : ev_M} (h0 : 0 ≤ i) (h1 : i < 6) : Ev jX2_isDueBy layX 0 [some (rv (1000 + 100 * i)), some (iv n)] [] σ (fun r σ' => ((r = 1 ∧ σ (1000 + 100 * i + 17) ≠ -4 ∧ σ (1000 + 100 * i + 17) ≤ n) ∨ (r = 0 ∧ ¬ (σ (1000 + 100 * i + 17) ≠ -4 ∧ σ (1000 + 100 * i + 17) ≤ n))) ∧ σ' = σ) := by
  refine Ev.aload_n dX2_isDueBy_0 rfl ?_
  refine Ev.geti (_ + 17) dX2_isDueBy_1 fl_X2_74 (lx_dev (by omega) (by omega)) (by decide) rfl rfl ?_
  refine Ev.bipush dX2_isDueBy_4 ⟨by decide, by decide⟩ (by decide) ?_
  refine Ev.icmp_eq (tgt := 21) dX2_isDueBy_6 rfl (fun c6 => ?_) (fun c6 => ?_)
  · skip
    refine Ev.iconst dX2_isDueBy_21 ⟨by decide, by decide⟩ ?_
    refine Ev.bool rfl dX2_isDueBy_22 (by omega) ?_
    exact ⟨by omega, rfl⟩
  · skip
    refine Ev.aload_n dX2_isDueBy_9 rfl ?_
    refine Ev.geti (_ + 17) dX2_isDueBy_10 fl_X2_74 (lx_dev (by omega) (by omega)) (by decide) rfl rfl ?_
    refine Ev.iload_n dX2_isDueBy_13 rfl ?_
    refine Ev.icmp_gt (tgt := 21) dX2_isDueBy_14 rfl (fun c14 => ?_) (fun c14 => ?_)
    · skip
      refine Ev.iconst dX2_isDueBy_21 ⟨by decide, by decide⟩ ?_
      refine Ev.bool rfl dX2_isDueBy_22 (by omega) ?_
      exact ⟨by omega, rfl⟩
    · skip
      refine Ev.iconst dX2_isDueBy_17 ⟨by decide, by decide⟩ ?_
      refine Ev.goto (tgt := 22) dX2_isDueBy_18 rfl ?_
      refine Ev.bool rfl dX2_isDueBy_22 (by omega) ?_
      exact ⟨by omega, rfl⟩
def x_rdg (i : Int) (σ : ev_M) : Int := (7 * σ (1000 + 100 * i + 16) + 3 * σ (1000 + 100 * i + 3)) % 100
def x_come (i : Int) (σ : ev_M) : ev_M := ev_up (ev_up (ev_up (ev_up (ev_up (ev_up σ (1000 + 100 * i + 20 + 10 + 0) (48 + x_rdg i σ / 10)) (1000 + 100 * i + 20 + 10 + 1) (48 + x_rdg i σ % 10)) (1000 + 100 * i + 20 + 1) 2) (1000 + 100 * i + 7) 16) (1000 + 100 * i + 8) 1) (1000 + 100 * i + 17) (-4)
theorem s_X2_comeReading {i : Int} {σ : ev_M} (h0 : 0 ≤ i) (h1 : i < 6) (ht0 : 0 ≤ σ (1000 + 100 * i + 16)) (ht1 : σ (1000 + 100 * i + 16) ≤ 999) (ha0 : 0 ≤ σ (1000 + 100 * i + 3)) (ha1 : σ (1000 + 100 * i + 3) ≤ 30) : Ev jX2_comeReading layX 0 [some (rv (1000 + 100 * i)), none] [] σ (fun _ σ' => σ' = x_come i σ) := by
  have hv : 0 ≤ x_rdg i σ ∧ x_rdg i σ < 100 := by unfold x_rdg; omega
  have e1 : ∀ v : Int, x_app (1000 + 100 * i + 20) v (ev_up σ (1000 + 100 * i + 20 + 1) 0) = (1, ev_up (ev_up (ev_up σ (1000 + 100 * i + 20 + 1) 0) (1000 + 100 * i + 20 + 10 + 0) v) (1000 + 100 * i + 20 + 1) 1) := by
    intro v
    unfold x_app
    rw [ev_up_eq, if_neg (by decide)]
    rfl
  have e2 : ∀ u v : Int, x_app (1000 + 100 * i + 20) v (ev_up (ev_up (ev_up σ (1000 + 100 * i + 20 + 1) 0) (1000 + 100 * i + 20 + 10 + 0) u) (1000 + 100 * i + 20 + 1) 1) = (2, ev_up (ev_up (ev_up (ev_up (ev_up σ (1000 + 100 * i + 20 + 1) 0) (1000 + 100 * i + 20 + 10 + 0) u) (1000 + 100 * i + 20 + 1) 1) (1000 + 100 * i + 20 + 10 + 1) v) (1000 + 100 * i + 20 + 1) 2) := by
    intro u v
    unfold x_app
    rw [ev_up_eq, if_neg (by decide)]
    rfl
  have e3 : ∀ u v : Int, ev_up (ev_up (ev_up (ev_up (ev_up σ (1000 + 100 * i + 20 + 1) 0) (1000 + 100 * i + 20 + 10 + 0) u) (1000 + 100 * i + 20 + 1) 1) (1000 + 100 * i + 20 + 10 + 1) v) (1000 + 100 * i + 20 + 1) 2 = ev_up (ev_up (ev_up σ (1000 + 100 * i + 20 + 10 + 0) u) (1000 + 100 * i + 20 + 10 + 1) v) (1000 + 100 * i + 20 + 1) 2 := by
    intro u v
    funext n
    unfold ev_up
    split
    · rfl
    · split
      · rfl
      · first | rfl | (split <;> (try rfl) <;> omega)
  refine Ev.bipush dX2_comeReading_0 ⟨by decide, by decide⟩ (by decide) ?_
  refine Ev.aload_n dX2_comeReading_2 rfl ?_
  refine Ev.geti (_ + 16) dX2_comeReading_3 fl_X2_62 (lx_dev (by omega) (by omega)) (by decide) rfl rfl ?_
  refine Ev.imul dX2_comeReading_6 (by unfold ev_in; omega) ?_
  refine Ev.iconst dX2_comeReading_7 ⟨by decide, by decide⟩ ?_
  refine Ev.aload_n dX2_comeReading_8 rfl ?_
  refine Ev.geti (_ + 3) dX2_comeReading_9 fl_X2_25 (lx_dev (by omega) (by omega)) (by decide) rfl rfl ?_
  refine Ev.imul dX2_comeReading_12 (by unfold ev_in; omega) ?_
  refine Ev.iadd dX2_comeReading_13 (by unfold ev_in; omega) ?_
  refine Ev.bipush dX2_comeReading_14 ⟨by decide, by decide⟩ (by decide) ?_
  refine Ev.irem dX2_comeReading_16 (by omega) (by decide) ?_
  rw [show (7 * σ (1000 + 100 * i + 16) + 3 * σ (1000 + 100 * i + 3)) % 100 = x_rdg i σ from rfl]
  refine Ev.istore1 rfl dX2_comeReading_17 ?_
  refine Ev.aload_n dX2_comeReading_18 rfl ?_
  refine Ev.getr (_ + 20) dX2_comeReading_19 fl_X2_12 (lx_dev (by omega) (by omega)) (by decide) rfl rfl ?_
  refine Ev.Vv0 (I' := jX0_empty) ml_X2_65 dX2_comeReading_22 cyX0_empty (lx_out (by omega) (by omega)) rfl (by decide) ⟨by decide, by decide⟩ (by simp) rfl rfl (s_X0_empty (lx_out h0 h1)) (fun σ' hq => ?_)
  subst hq
  refine Ev.aload_n dX2_comeReading_25 rfl ?_
  refine Ev.getr (_ + 20) dX2_comeReading_26 fl_X2_12 (lx_dev (by omega) (by omega)) (by decide) rfl rfl ?_
  refine Ev.bipush dX2_comeReading_29 ⟨by decide, by decide⟩ (by decide) ?_
  refine Ev.iload_n dX2_comeReading_31 rfl ?_
  refine Ev.bipush dX2_comeReading_32 ⟨by decide, by decide⟩ (by decide) ?_
  refine Ev.idiv dX2_comeReading_34 (by omega) (by decide) ?_
  refine Ev.iadd dX2_comeReading_35 (by unfold ev_in; omega) ?_
  refine Ev.Vi1 (I' := jX0_append) ml_X2_83 dX2_comeReading_36 cyX0_append (lx_out (by omega) (by omega)) rfl (by decide) ⟨by decide, by decide⟩ (by simp) rfl rfl (s_X0_append (lx_out h0 h1) (lx_ob h0 h1) (by rw [ev_up_eq]; decide) (by rw [ev_up_eq]; decide)) (fun r σ' hr36 hq => ?_)
  rw [e1] at hq
  obtain ⟨rfl, rfl⟩ := Prod.mk.inj hq
  refine Ev.pop dX2_comeReading_39 ?_
  refine Ev.aload_n dX2_comeReading_40 rfl ?_
  refine Ev.getr (_ + 20) dX2_comeReading_41 fl_X2_12 (lx_dev (by omega) (by omega)) (by decide) rfl rfl ?_
  refine Ev.bipush dX2_comeReading_44 ⟨by decide, by decide⟩ (by decide) ?_
  refine Ev.iload_n dX2_comeReading_46 rfl ?_
  refine Ev.bipush dX2_comeReading_47 ⟨by decide, by decide⟩ (by decide) ?_
  refine Ev.irem dX2_comeReading_49 (by omega) (by decide) ?_
  refine Ev.iadd dX2_comeReading_50 (by unfold ev_in; omega) ?_
  refine Ev.Vi1 (I' := jX0_append) ml_X2_83 dX2_comeReading_51 cyX0_append (lx_out (by omega) (by omega)) rfl (by decide) ⟨by decide, by decide⟩ (by simp) rfl rfl (s_X0_append (lx_out h0 h1) (lx_ob h0 h1) (by rw [ev_up_eq]; decide) (by rw [ev_up_eq]; decide)) (fun r σ' hr51 hq => ?_)
  rw [e2, e3] at hq
  obtain ⟨rfl, rfl⟩ := Prod.mk.inj hq
  refine Ev.pop dX2_comeReading_54 ?_
  refine Ev.aload_n dX2_comeReading_55 rfl ?_
  refine Ev.bipush dX2_comeReading_56 ⟨by decide, by decide⟩ (by decide) ?_
  refine Ev.puti (_ + 7) dX2_comeReading_58 fl_X2_68 ft_2_7 (lx_dev (by omega) (by omega)) (by decide) rfl rfl ?_
  refine Ev.aload_n dX2_comeReading_61 rfl ?_
  refine Ev.iconst dX2_comeReading_62 ⟨by decide, by decide⟩ ?_
  refine Ev.putz (_ + 8) dX2_comeReading_63 fl_X2_71 ft_2_8 (lx_dev (by omega) (by omega)) (by decide) rfl rfl (by omega) ?_
  refine Ev.aload_n dX2_comeReading_66 rfl ?_
  refine Ev.bipush dX2_comeReading_67 ⟨by decide, by decide⟩ (by decide) ?_
  refine Ev.puti (_ + 17) dX2_comeReading_69 fl_X2_74 ft_2_17 (lx_dev (by omega) (by omega)) (by decide) rfl rfl ?_
  refine Ev.vret dX2_comeReading_72 rfl ?_
  rfl
def x_pb (i : Int) (σ : ev_M) : Int := if σ (1000 + 100 * i + 8) = 0 then σ (1000 + 100 * i + 7) else σ (1000 + 100 * i + 7) + 64
theorem s_X2_pollByte {i : Int} {σ : ev_M} (h0 : 0 ≤ i) (h1 : i < 6) (hs : ev_in (σ (1000 + 100 * i + 7) + 64)) : Ev jX2_pollByte layX 0 [some (rv (1000 + 100 * i))] [] σ (fun r σ' => r = x_pb i σ ∧ σ' = σ) := by
  unfold ev_in at hs
  refine Ev.aload_n dX2_pollByte_0 rfl ?_
  refine Ev.geti (_ + 8) dX2_pollByte_1 fl_X2_71 (lx_dev (by omega) (by omega)) (by decide) rfl rfl ?_
  refine Ev.if_eq (tgt := 17) dX2_pollByte_4 rfl (fun c4 => ?_) (fun c4 => ?_)
  · skip
    refine Ev.aload_n dX2_pollByte_17 rfl ?_
    refine Ev.geti (_ + 7) dX2_pollByte_18 fl_X2_68 (lx_dev (by omega) (by omega)) (by decide) rfl rfl ?_
    refine Ev.int rfl dX2_pollByte_21 ?_
    refine ⟨?_, rfl⟩
    unfold x_pb
    first | rw [if_pos (by omega)] | rw [if_neg (by omega)]
  · skip
    refine Ev.aload_n dX2_pollByte_7 rfl ?_
    refine Ev.geti (_ + 7) dX2_pollByte_8 fl_X2_68 (lx_dev (by omega) (by omega)) (by decide) rfl rfl ?_
    refine Ev.bipush dX2_pollByte_11 ⟨by decide, by decide⟩ (by decide) ?_
    refine Ev.iadd dX2_pollByte_13 (by unfold ev_in; omega) ?_
    refine Ev.goto (tgt := 21) dX2_pollByte_14 rfl ?_
    refine Ev.int rfl dX2_pollByte_21 ?_
    refine ⟨?_, rfl⟩
    unfold x_pb
    first | rw [if_pos (by omega)] | rw [if_neg (by omega)]
def x_lb (i : Int) (σ : ev_M) : Int := if σ (1000 + 100 * i + 14) ≠ -4 ∧ σ (1000 + 100 * i + 15) = σ (1000 + 100 * i + 8) then ev_shl 1 (σ (1000 + 100 * i + 14)) else 0
theorem s_X2_lineBit {i : Int} {σ : ev_M} (h0 : 0 ≤ i) (h1 : i < 6) (hs : σ (1000 + 100 * i + 8) = 0 ∨ σ (1000 + 100 * i + 8) = 1) : Ev jX2_lineBit layX 0 [some (rv (1000 + 100 * i))] [] σ (fun r σ' => r = x_lb i σ ∧ σ' = σ) := by
  refine Ev.aload_n dX2_lineBit_0 rfl ?_
  refine Ev.geti (_ + 14) dX2_lineBit_1 fl_X2_56 (lx_dev (by omega) (by omega)) (by decide) rfl rfl ?_
  refine Ev.bipush dX2_lineBit_4 ⟨by decide, by decide⟩ (by decide) ?_
  refine Ev.icmp_eq (tgt := 32) dX2_lineBit_6 rfl (fun c6 => ?_) (fun c6 => ?_)
  · skip
    refine Ev.iconst dX2_lineBit_32 ⟨by decide, by decide⟩ ?_
    refine Ev.int rfl dX2_lineBit_33 ?_
    refine ⟨?_, rfl⟩
    unfold x_lb
    first | rw [if_pos (by omega)] | rw [if_neg (by omega)]
  · skip
    refine Ev.aload_n dX2_lineBit_9 rfl ?_
    refine Ev.geti (_ + 15) dX2_lineBit_10 fl_X2_59 (lx_dev (by omega) (by omega)) (by decide) rfl rfl ?_
    refine Ev.aload_n dX2_lineBit_13 rfl ?_
    refine Ev.geti (_ + 8) dX2_lineBit_14 fl_X2_71 (lx_dev (by omega) (by omega)) (by decide) rfl rfl ?_
    refine Ev.Ni1 (I' := jX4_bit) nl_X2_87 dX2_lineBit_17 cyX4_bit (by decide) ⟨by decide, by decide⟩ (by simp) rfl rfl (s_X4_bit hs) (fun r σ' hr17 hq => ?_)
    obtain ⟨rfl, hq⟩ := hq
    replace hq := hq.symm
    subst hq
    refine Ev.icmp_ne (tgt := 32) dX2_lineBit_20 rfl (fun c20 => ?_) (fun c20 => ?_)
    · skip
      refine Ev.iconst dX2_lineBit_32 ⟨by decide, by decide⟩ ?_
      refine Ev.int rfl dX2_lineBit_33 ?_
      refine ⟨?_, rfl⟩
      unfold x_lb
      first | rw [if_pos (by omega)] | rw [if_neg (by omega)]
    · skip
      refine Ev.iconst dX2_lineBit_23 ⟨by decide, by decide⟩ ?_
      refine Ev.aload_n dX2_lineBit_24 rfl ?_
      refine Ev.geti (_ + 14) dX2_lineBit_25 fl_X2_56 (lx_dev (by omega) (by omega)) (by decide) rfl rfl ?_
      refine Ev.ishl dX2_lineBit_28 ?_
      refine Ev.goto (tgt := 33) dX2_lineBit_29 rfl ?_
      refine Ev.int rfl dX2_lineBit_33 ?_
      refine ⟨?_, rfl⟩
      unfold x_lb
      first | rw [if_pos (by omega)] | rw [if_neg (by omega)]
def x_begin (i a k : Int) (σ : ev_M) : ev_M := ev_up (ev_up (ev_up (ev_up (ev_up (ev_up (ev_up (ev_up (x_clear i (ev_up (ev_up (ev_up (ev_up (ev_up σ (1000 + 100 * i + 2) (σ (a + (k + 0)))) (1000 + 100 * i + 3) (σ (a + (k + 1)))) (1000 + 100 * i + 4) (σ (a + (k + 2)))) (1000 + 100 * i + 5) (σ (a + (k + 3)))) (1000 + 100 * i + 6) (σ (a + (k + 4))))) (1000 + 100 * i + 9) 0) (1000 + 100 * i + 10) 0) (1000 + 100 * i + 11) 0) (1000 + 100 * i + 12) 0) (1000 + 100 * i + 13) 0) (1000 + 100 * i + 14) (-4)) (1000 + 100 * i + 15) 0) (1000 + 100 * i + 16) 0
theorem s_X2_begin {i a k : Int} {σ : ev_M} {kd aux : Nat} (h0 : 0 ≤ i) (h1 : i < 6) (hm : (a, 30, kd, aux) ∈ layX) (hkd : kd = 1 ∨ kd = 4) (ha : a = 60 ∨ a = 520) (hk0 : 0 ≤ k) (hk1 : k ≤ 25) : Ev jX2_begin layX 0 [some (rv (1000 + 100 * i)), some (rv a), some (iv k)] [] σ (fun _ σ' => σ' = x_begin i a k σ) := by
  refine Ev.aload_n dX2_begin_0 rfl ?_
  refine Ev.aload_n dX2_begin_1 rfl ?_
  refine Ev.iload_n dX2_begin_2 rfl ?_
  refine Ev.iconst dX2_begin_3 ⟨by decide, by decide⟩ ?_
  refine Ev.iadd dX2_begin_4 (by unfold ev_in; omega) ?_
  refine Ev.iald dX2_begin_5 (by assumption) (by assumption) (by omega) (by omega) ?_
  refine Ev.puti (_ + 2) dX2_begin_6 fl_X2_21 ft_2_2 (lx_dev (by omega) (by omega)) (by decide) rfl rfl ?_
  refine Ev.aload_n dX2_begin_9 rfl ?_
  refine Ev.aload_n dX2_begin_10 rfl ?_
  refine Ev.iload_n dX2_begin_11 rfl ?_
  refine Ev.iconst dX2_begin_12 ⟨by decide, by decide⟩ ?_
  refine Ev.iadd dX2_begin_13 (by unfold ev_in; omega) ?_
  refine Ev.iald dX2_begin_14 (by assumption) (by assumption) (by omega) (by omega) ?_
  try simp (disch := omega) only [ev_up_ne, ev_up_eqs]
  refine Ev.puti (_ + 3) dX2_begin_15 fl_X2_25 ft_2_3 (lx_dev (by omega) (by omega)) (by decide) rfl rfl ?_
  refine Ev.aload_n dX2_begin_18 rfl ?_
  refine Ev.aload_n dX2_begin_19 rfl ?_
  refine Ev.iload_n dX2_begin_20 rfl ?_
  refine Ev.iconst dX2_begin_21 ⟨by decide, by decide⟩ ?_
  refine Ev.iadd dX2_begin_22 (by unfold ev_in; omega) ?_
  refine Ev.iald dX2_begin_23 (by assumption) (by assumption) (by omega) (by omega) ?_
  try simp (disch := omega) only [ev_up_ne, ev_up_eqs]
  refine Ev.puti (_ + 4) dX2_begin_24 fl_X2_28 ft_2_4 (lx_dev (by omega) (by omega)) (by decide) rfl rfl ?_
  refine Ev.aload_n dX2_begin_27 rfl ?_
  refine Ev.aload_n dX2_begin_28 rfl ?_
  refine Ev.iload_n dX2_begin_29 rfl ?_
  refine Ev.iconst dX2_begin_30 ⟨by decide, by decide⟩ ?_
  refine Ev.iadd dX2_begin_31 (by unfold ev_in; omega) ?_
  refine Ev.iald dX2_begin_32 (by assumption) (by assumption) (by omega) (by omega) ?_
  try simp (disch := omega) only [ev_up_ne, ev_up_eqs]
  refine Ev.puti (_ + 5) dX2_begin_33 fl_X2_31 ft_2_5 (lx_dev (by omega) (by omega)) (by decide) rfl rfl ?_
  refine Ev.aload_n dX2_begin_36 rfl ?_
  refine Ev.aload_n dX2_begin_37 rfl ?_
  refine Ev.iload_n dX2_begin_38 rfl ?_
  refine Ev.iconst dX2_begin_39 ⟨by decide, by decide⟩ ?_
  refine Ev.iadd dX2_begin_40 (by unfold ev_in; omega) ?_
  refine Ev.iald dX2_begin_41 (by assumption) (by assumption) (by omega) (by omega) ?_
  try simp (disch := omega) only [ev_up_ne, ev_up_eqs]
  refine Ev.puti (_ + 6) dX2_begin_42 fl_X2_34 ft_2_6 (lx_dev (by omega) (by omega)) (by decide) rfl rfl ?_
  refine Ev.aload_n dX2_begin_45 rfl ?_
  refine Ev.Vv0 (I' := jX2_clear) ml_X2_37 dX2_begin_46 cyX2_clear (lx_dev (by omega) (by omega)) rfl (by decide) ⟨by decide, by decide⟩ (by simp) rfl rfl (s_X2_clear h0 h1) (fun σ' hq => ?_)
  subst hq
  refine Ev.aload_n dX2_begin_49 rfl ?_
  refine Ev.iconst dX2_begin_50 ⟨by decide, by decide⟩ ?_
  refine Ev.putz (_ + 9) dX2_begin_51 fl_X2_40 ft_2_9 (lx_dev (by omega) (by omega)) (by decide) rfl rfl (by omega) ?_
  refine Ev.aload_n dX2_begin_54 rfl ?_
  refine Ev.iconst dX2_begin_55 ⟨by decide, by decide⟩ ?_
  refine Ev.putz (_ + 10) dX2_begin_56 fl_X2_44 ft_2_10 (lx_dev (by omega) (by omega)) (by decide) rfl rfl (by omega) ?_
  refine Ev.aload_n dX2_begin_59 rfl ?_
  refine Ev.iconst dX2_begin_60 ⟨by decide, by decide⟩ ?_
  refine Ev.putz (_ + 11) dX2_begin_61 fl_X2_47 ft_2_11 (lx_dev (by omega) (by omega)) (by decide) rfl rfl (by omega) ?_
  refine Ev.aload_n dX2_begin_64 rfl ?_
  refine Ev.iconst dX2_begin_65 ⟨by decide, by decide⟩ ?_
  refine Ev.putz (_ + 12) dX2_begin_66 fl_X2_50 ft_2_12 (lx_dev (by omega) (by omega)) (by decide) rfl rfl (by omega) ?_
  refine Ev.aload_n dX2_begin_69 rfl ?_
  refine Ev.iconst dX2_begin_70 ⟨by decide, by decide⟩ ?_
  refine Ev.puti (_ + 13) dX2_begin_71 fl_X2_53 ft_2_13 (lx_dev (by omega) (by omega)) (by decide) rfl rfl ?_
  refine Ev.aload_n dX2_begin_74 rfl ?_
  refine Ev.bipush dX2_begin_75 ⟨by decide, by decide⟩ (by decide) ?_
  refine Ev.puti (_ + 14) dX2_begin_77 fl_X2_56 ft_2_14 (lx_dev (by omega) (by omega)) (by decide) rfl rfl ?_
  refine Ev.aload_n dX2_begin_80 rfl ?_
  refine Ev.iconst dX2_begin_81 ⟨by decide, by decide⟩ ?_
  refine Ev.puti (_ + 15) dX2_begin_82 fl_X2_59 ft_2_15 (lx_dev (by omega) (by omega)) (by decide) rfl rfl ?_
  refine Ev.aload_n dX2_begin_85 rfl ?_
  refine Ev.iconst dX2_begin_86 ⟨by decide, by decide⟩ ?_
  refine Ev.puti (_ + 16) dX2_begin_87 fl_X2_62 ft_2_16 (lx_dev (by omega) (by omega)) (by decide) rfl rfl ?_
  refine Ev.vret dX2_begin_90 rfl ?_
  rfl
def x_set (i a : Int) (σ : ev_M) : Int := if a = 0 then σ (1000 + 100 * i + 2) else if a = 1 then σ (1000 + 100 * i + 3) else if a = 2 then σ (1000 + 100 * i + 4) else if a = 3 then σ (1000 + 100 * i + 5) else if a = 4 then σ (1000 + 100 * i + 6) else if a = 6 then σ (1000 + 100 * i + 9) else if a = 7 then σ (1000 + 100 * i + 10) else if a = 8 then σ (1000 + 100 * i + 11) else -1
theorem s_X2_tellSetting {i a b : Int} {σ : ev_M} (h0 : 0 ≤ i) (h1 : i < 6) (hX : XI b σ) : Ev jX2_tellSetting layX 0 [some (rv (1000 + 100 * i)), some (iv a)] [] σ (fun r σ' => r = x_set i a σ ∧ σ' = σ) := by
  have g9 := hX.d9 h0 h1
  have g10 := hX.d10 h0 h1
  have g11 := hX.d11 h0 h1
  refine Ev.iload_n dX2_tellSetting_0 rfl ?_
  by_cases hs : 0 ≤ a ∧ a ≤ 8
  · rcases (show a = 0 ∨ a = 1 ∨ a = 2 ∨ a = 3 ∨ a = 4 ∨ a = 5 ∨ a = 6 ∨ a = 7 ∨ a = 8 by omega) with rfl | rfl | rfl | rfl | rfl | rfl | rfl | rfl | rfl
    · refine Ev.tabIn (tgt := 52) dX2_tellSetting_1 (by decide) (by decide) rfl rfl ?_
      refine Ev.aload_n dX2_tellSetting_52 rfl ?_
      refine Ev.geti (_ + 2) dX2_tellSetting_53 fl_X2_21 (lx_dev (by omega) (by omega)) (by decide) rfl rfl ?_
      refine Ev.int rfl dX2_tellSetting_56 ?_
      refine ⟨?_, rfl⟩
      unfold x_set
      first | rfl | (repeat (first | rw [if_pos (by omega)] | rw [if_neg (by omega)]))
    · refine Ev.tabIn (tgt := 57) dX2_tellSetting_1 (by decide) (by decide) rfl rfl ?_
      refine Ev.aload_n dX2_tellSetting_57 rfl ?_
      refine Ev.geti (_ + 3) dX2_tellSetting_58 fl_X2_25 (lx_dev (by omega) (by omega)) (by decide) rfl rfl ?_
      refine Ev.int rfl dX2_tellSetting_61 ?_
      refine ⟨?_, rfl⟩
      unfold x_set
      first | rfl | (repeat (first | rw [if_pos (by omega)] | rw [if_neg (by omega)]))
    · refine Ev.tabIn (tgt := 62) dX2_tellSetting_1 (by decide) (by decide) rfl rfl ?_
      refine Ev.aload_n dX2_tellSetting_62 rfl ?_
      refine Ev.geti (_ + 4) dX2_tellSetting_63 fl_X2_28 (lx_dev (by omega) (by omega)) (by decide) rfl rfl ?_
      refine Ev.int rfl dX2_tellSetting_66 ?_
      refine ⟨?_, rfl⟩
      unfold x_set
      first | rfl | (repeat (first | rw [if_pos (by omega)] | rw [if_neg (by omega)]))
    · refine Ev.tabIn (tgt := 67) dX2_tellSetting_1 (by decide) (by decide) rfl rfl ?_
      refine Ev.aload_n dX2_tellSetting_67 rfl ?_
      refine Ev.geti (_ + 5) dX2_tellSetting_68 fl_X2_31 (lx_dev (by omega) (by omega)) (by decide) rfl rfl ?_
      refine Ev.int rfl dX2_tellSetting_71 ?_
      refine ⟨?_, rfl⟩
      unfold x_set
      first | rfl | (repeat (first | rw [if_pos (by omega)] | rw [if_neg (by omega)]))
    · refine Ev.tabIn (tgt := 72) dX2_tellSetting_1 (by decide) (by decide) rfl rfl ?_
      refine Ev.aload_n dX2_tellSetting_72 rfl ?_
      refine Ev.geti (_ + 6) dX2_tellSetting_73 fl_X2_34 (lx_dev (by omega) (by omega)) (by decide) rfl rfl ?_
      refine Ev.int rfl dX2_tellSetting_76 ?_
      refine ⟨?_, rfl⟩
      unfold x_set
      first | rfl | (repeat (first | rw [if_pos (by omega)] | rw [if_neg (by omega)]))
    · refine Ev.tabIn (tgt := 101) dX2_tellSetting_1 (by decide) (by decide) rfl rfl ?_
      refine Ev.iconst dX2_tellSetting_101 ⟨by decide, by decide⟩ ?_
      refine Ev.int rfl dX2_tellSetting_102 ?_
      refine ⟨?_, rfl⟩
      unfold x_set
      first | rfl | (repeat (first | rw [if_pos (by omega)] | rw [if_neg (by omega)]))
    · refine Ev.tabIn (tgt := 77) dX2_tellSetting_1 (by decide) (by decide) rfl rfl ?_
      refine Ev.aload_n dX2_tellSetting_77 rfl ?_
      refine Ev.geti (_ + 9) dX2_tellSetting_78 fl_X2_40 (lx_dev (by omega) (by omega)) (by decide) rfl rfl ?_
      refine Ev.Ni1 (I' := jX4_bit) nl_X2_87 dX2_tellSetting_81 cyX4_bit (by decide) ⟨by decide, by decide⟩ (by simp) rfl rfl (s_X4_bit (by omega)) (fun r σ' hr81 hq => ?_)
      obtain ⟨rfl, hq⟩ := hq
      replace hq := hq.symm
      subst hq
      refine Ev.int rfl dX2_tellSetting_84 ?_
      refine ⟨?_, rfl⟩
      unfold x_set
      first | rfl | (repeat (first | rw [if_pos (by omega)] | rw [if_neg (by omega)]))
    · refine Ev.tabIn (tgt := 85) dX2_tellSetting_1 (by decide) (by decide) rfl rfl ?_
      refine Ev.aload_n dX2_tellSetting_85 rfl ?_
      refine Ev.geti (_ + 10) dX2_tellSetting_86 fl_X2_44 (lx_dev (by omega) (by omega)) (by decide) rfl rfl ?_
      refine Ev.Ni1 (I' := jX4_bit) nl_X2_87 dX2_tellSetting_89 cyX4_bit (by decide) ⟨by decide, by decide⟩ (by simp) rfl rfl (s_X4_bit (by omega)) (fun r σ' hr89 hq => ?_)
      obtain ⟨rfl, hq⟩ := hq
      replace hq := hq.symm
      subst hq
      refine Ev.int rfl dX2_tellSetting_92 ?_
      refine ⟨?_, rfl⟩
      unfold x_set
      first | rfl | (repeat (first | rw [if_pos (by omega)] | rw [if_neg (by omega)]))
    · refine Ev.tabIn (tgt := 93) dX2_tellSetting_1 (by decide) (by decide) rfl rfl ?_
      refine Ev.aload_n dX2_tellSetting_93 rfl ?_
      refine Ev.geti (_ + 11) dX2_tellSetting_94 fl_X2_47 (lx_dev (by omega) (by omega)) (by decide) rfl rfl ?_
      refine Ev.Ni1 (I' := jX4_bit) nl_X2_87 dX2_tellSetting_97 cyX4_bit (by decide) ⟨by decide, by decide⟩ (by simp) rfl rfl (s_X4_bit (by omega)) (fun r σ' hr97 hq => ?_)
      obtain ⟨rfl, hq⟩ := hq
      replace hq := hq.symm
      subst hq
      refine Ev.int rfl dX2_tellSetting_100 ?_
      refine ⟨?_, rfl⟩
      unfold x_set
      first | rfl | (repeat (first | rw [if_pos (by omega)] | rw [if_neg (by omega)]))
  · refine Ev.tabOut (tgt := 101) dX2_tellSetting_1 (by omega) rfl ?_
    refine Ev.iconst dX2_tellSetting_101 ⟨by decide, by decide⟩ ?_
    refine Ev.int rfl dX2_tellSetting_102 ?_
    refine ⟨?_, rfl⟩
    unfold x_set
    first | rfl | (repeat (first | rw [if_pos (by omega)] | rw [if_neg (by omega)]))
def x_sta (i a n : Int) (σ : ev_M) : Int := if a = 9 then σ (1000 + 100 * i + 7) else if a = 10 then σ (1000 + 100 * i + 8) else if a = 11 then σ (1000 + 100 * i + 14) else if a = 12 then (if σ (1000 + 100 * i + 14) = -4 then -4 else σ (1000 + 100 * i + 15)) else if a = 13 then σ (1000 + 100 * i + 16) else if a = 14 then (if σ (1000 + 100 * i + 17) = -4 then -4 else σ (1000 + 100 * i + 17) - n) else if a = 15 then σ (1000 + 100 * i + 20 + 1) else if a = 16 then σ (1000 + 100 * i + 50 + 1) else if a = 17 then σ (1000 + 100 * i + 13) else -1
theorem s_X2_tellState {i a n b : Int} {σ : ev_M} (h0 : 0 ≤ i) (h1 : i < 6) (hX : XI b σ) (hn : ev_in (σ (1000 + 100 * i + 17) - n)) : Ev jX2_tellState layX 0 [some (rv (1000 + 100 * i)), some (iv a), some (iv n)] [] σ (fun r σ' => r = x_sta i a n σ ∧ σ' = σ) := by
  have g8 := hX.d8 h0 h1
  unfold ev_in at hn
  refine Ev.iload_n dX2_tellState_0 rfl ?_
  by_cases hs : 9 ≤ a ∧ a ≤ 17
  · rcases (show a = 9 ∨ a = 10 ∨ a = 11 ∨ a = 12 ∨ a = 13 ∨ a = 14 ∨ a = 15 ∨ a = 16 ∨ a = 17 by omega) with rfl | rfl | rfl | rfl | rfl | rfl | rfl | rfl | rfl
    · refine Ev.tabIn (tgt := 52) dX2_tellState_1 (by decide) (by decide) rfl rfl ?_
      refine Ev.aload_n dX2_tellState_52 rfl ?_
      refine Ev.geti (_ + 7) dX2_tellState_53 fl_X2_68 (lx_dev (by omega) (by omega)) (by decide) rfl rfl ?_
      refine Ev.int rfl dX2_tellState_56 ?_
      refine ⟨?_, rfl⟩
      unfold x_sta
      first | rfl | (repeat (first | rw [if_pos (by omega)] | rw [if_neg (by omega)]))
    · refine Ev.tabIn (tgt := 57) dX2_tellState_1 (by decide) (by decide) rfl rfl ?_
      refine Ev.aload_n dX2_tellState_57 rfl ?_
      refine Ev.geti (_ + 8) dX2_tellState_58 fl_X2_71 (lx_dev (by omega) (by omega)) (by decide) rfl rfl ?_
      refine Ev.Ni1 (I' := jX4_bit) nl_X2_87 dX2_tellState_61 cyX4_bit (by decide) ⟨by decide, by decide⟩ (by simp) rfl rfl (s_X4_bit (by omega)) (fun r σ' hr61 hq => ?_)
      obtain ⟨rfl, hq⟩ := hq
      replace hq := hq.symm
      subst hq
      refine Ev.int rfl dX2_tellState_64 ?_
      refine ⟨?_, rfl⟩
      unfold x_sta
      first | rfl | (repeat (first | rw [if_pos (by omega)] | rw [if_neg (by omega)]))
    · refine Ev.tabIn (tgt := 65) dX2_tellState_1 (by decide) (by decide) rfl rfl ?_
      refine Ev.aload_n dX2_tellState_65 rfl ?_
      refine Ev.geti (_ + 14) dX2_tellState_66 fl_X2_56 (lx_dev (by omega) (by omega)) (by decide) rfl rfl ?_
      refine Ev.int rfl dX2_tellState_69 ?_
      refine ⟨?_, rfl⟩
      unfold x_sta
      first | rfl | (repeat (first | rw [if_pos (by omega)] | rw [if_neg (by omega)]))
    · refine Ev.tabIn (tgt := 70) dX2_tellState_1 (by decide) (by decide) rfl rfl ?_
      refine Ev.aload_n dX2_tellState_70 rfl ?_
      refine Ev.geti (_ + 14) dX2_tellState_71 fl_X2_56 (lx_dev (by omega) (by omega)) (by decide) rfl rfl ?_
      refine Ev.bipush dX2_tellState_74 ⟨by decide, by decide⟩ (by decide) ?_
      refine Ev.icmp_ne (tgt := 84) dX2_tellState_76 rfl (fun c76 => ?_) (fun c76 => ?_)
      · skip
        refine Ev.aload_n dX2_tellState_84 rfl ?_
        refine Ev.geti (_ + 15) dX2_tellState_85 fl_X2_59 (lx_dev (by omega) (by omega)) (by decide) rfl rfl ?_
        refine Ev.int rfl dX2_tellState_88 ?_
        refine ⟨?_, rfl⟩
        unfold x_sta
        first | rfl | (repeat (first | rw [if_pos (by omega)] | rw [if_neg (by omega)]))
      · skip
        refine Ev.bipush dX2_tellState_79 ⟨by decide, by decide⟩ (by decide) ?_
        refine Ev.goto (tgt := 88) dX2_tellState_81 rfl ?_
        refine Ev.int rfl dX2_tellState_88 ?_
        refine ⟨?_, rfl⟩
        unfold x_sta
        first | rfl | (repeat (first | rw [if_pos (by omega)] | rw [if_neg (by omega)]))
    · refine Ev.tabIn (tgt := 89) dX2_tellState_1 (by decide) (by decide) rfl rfl ?_
      refine Ev.aload_n dX2_tellState_89 rfl ?_
      refine Ev.geti (_ + 16) dX2_tellState_90 fl_X2_62 (lx_dev (by omega) (by omega)) (by decide) rfl rfl ?_
      refine Ev.int rfl dX2_tellState_93 ?_
      refine ⟨?_, rfl⟩
      unfold x_sta
      first | rfl | (repeat (first | rw [if_pos (by omega)] | rw [if_neg (by omega)]))
    · refine Ev.tabIn (tgt := 94) dX2_tellState_1 (by decide) (by decide) rfl rfl ?_
      refine Ev.aload_n dX2_tellState_94 rfl ?_
      refine Ev.geti (_ + 17) dX2_tellState_95 fl_X2_74 (lx_dev (by omega) (by omega)) (by decide) rfl rfl ?_
      refine Ev.bipush dX2_tellState_98 ⟨by decide, by decide⟩ (by decide) ?_
      refine Ev.icmp_ne (tgt := 108) dX2_tellState_100 rfl (fun c100 => ?_) (fun c100 => ?_)
      · skip
        refine Ev.aload_n dX2_tellState_108 rfl ?_
        refine Ev.geti (_ + 17) dX2_tellState_109 fl_X2_74 (lx_dev (by omega) (by omega)) (by decide) rfl rfl ?_
        refine Ev.iload_n dX2_tellState_112 rfl ?_
        refine Ev.isub dX2_tellState_113 (by unfold ev_in; omega) ?_
        refine Ev.int rfl dX2_tellState_114 ?_
        refine ⟨?_, rfl⟩
        unfold x_sta
        first | rfl | (repeat (first | rw [if_pos (by omega)] | rw [if_neg (by omega)]))
      · skip
        refine Ev.bipush dX2_tellState_103 ⟨by decide, by decide⟩ (by decide) ?_
        refine Ev.goto (tgt := 114) dX2_tellState_105 rfl ?_
        refine Ev.int rfl dX2_tellState_114 ?_
        refine ⟨?_, rfl⟩
        unfold x_sta
        first | rfl | (repeat (first | rw [if_pos (by omega)] | rw [if_neg (by omega)]))
    · refine Ev.tabIn (tgt := 115) dX2_tellState_1 (by decide) (by decide) rfl rfl ?_
      refine Ev.aload_n dX2_tellState_115 rfl ?_
      refine Ev.getr (_ + 20) dX2_tellState_116 fl_X2_12 (lx_dev (by omega) (by omega)) (by decide) rfl rfl ?_
      refine Ev.geti (_ + 1) dX2_tellState_119 fl_X2_91 (lx_out (by omega) (by omega)) (by decide) rfl rfl ?_
      refine Ev.int rfl dX2_tellState_122 ?_
      refine ⟨?_, rfl⟩
      unfold x_sta
      first | rfl | (repeat (first | rw [if_pos (by omega)] | rw [if_neg (by omega)]))
    · refine Ev.tabIn (tgt := 123) dX2_tellState_1 (by decide) (by decide) rfl rfl ?_
      refine Ev.aload_n dX2_tellState_123 rfl ?_
      refine Ev.getr (_ + 50) dX2_tellState_124 fl_X2_18 (lx_dev (by omega) (by omega)) (by decide) rfl rfl ?_
      refine Ev.geti (_ + 1) dX2_tellState_127 fl_X2_91 (lx_inn (by omega) (by omega)) (by decide) rfl rfl ?_
      refine Ev.int rfl dX2_tellState_130 ?_
      refine ⟨?_, rfl⟩
      unfold x_sta
      first | rfl | (repeat (first | rw [if_pos (by omega)] | rw [if_neg (by omega)]))
    · refine Ev.tabIn (tgt := 131) dX2_tellState_1 (by decide) (by decide) rfl rfl ?_
      refine Ev.aload_n dX2_tellState_131 rfl ?_
      refine Ev.geti (_ + 13) dX2_tellState_132 fl_X2_53 (lx_dev (by omega) (by omega)) (by decide) rfl rfl ?_
      refine Ev.int rfl dX2_tellState_135 ?_
      refine ⟨?_, rfl⟩
      unfold x_sta
      first | rfl | (repeat (first | rw [if_pos (by omega)] | rw [if_neg (by omega)]))
  · refine Ev.tabOut (tgt := 136) dX2_tellState_1 (by omega) rfl ?_
    refine Ev.iconst dX2_tellState_136 ⟨by decide, by decide⟩ ?_
    refine Ev.int rfl dX2_tellState_137 ?_
    refine ⟨?_, rfl⟩
    unfold x_sta
    first | rfl | (repeat (first | rw [if_pos (by omega)] | rw [if_neg (by omega)]))
