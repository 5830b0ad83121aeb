/-! the class: what is called on one device, what is looked at -/
def q_put (d v : Int) (σ : ev_M) : Int × ev_M := if ¬ (0 ≤ d ∧ d < σ 4 ∧ 0 ≤ v ∧ v ≤ 255) then (-1, σ) else x_app (1000 + 100 * d + 20) v σ
def q_take (d : Int) (σ : ev_M) : Int × ev_M := if ¬ (0 ≤ d ∧ d < σ 4) then (-1, σ) else x_rmv (1000 + 100 * d + 50) σ
def q_ask (d s a : Int) (σ : ev_M) : Int × ev_M := if ¬ (0 ≤ d ∧ d < σ 4 ∧ 0 ≤ s ∧ s ≤ 63 ∧ 0 ≤ a ∧ a ≤ 1) then (-1, σ) else (x_pb d σ, ev_up (ev_up σ (1000 + 100 * d + 7) s) (1000 + 100 * d + 8) a)
def q_front (d : Int) (σ : ev_M) : Int × ev_M := if ¬ (0 ≤ d ∧ d < σ 4) then (-1, σ) else if σ (1000 + 100 * d + 11) = 0 then (1, ev_up σ (1000 + 100 * d + 10) 0) else (if σ (1000 + 100 * d + 10) = 0 then 1 else 0, σ)
def q_tune (d a v : Int) (σ : ev_M) : Int × ev_M := if ¬ (0 ≤ d ∧ d < σ 4 ∧ 0 ≤ a ∧ a ≤ 1 ∧ 1 - a ≤ v ∧ v ≤ (if a = 0 then 9 else 60)) then (-1, σ) else if a = 0 then (if v = σ (1000 + 100 * d + 5) then (-2, σ) else (σ (1000 + 100 * d + 5), ev_up σ (1000 + 100 * d + 5) v)) else (if v = σ (1000 + 100 * d + 6) then (-2, σ) else (σ (1000 + 100 * d + 6), ev_up σ (1000 + 100 * d + 6) v))
def q_device (d a : Int) (σ : ev_M) : Int × ev_M := (if ¬ (0 ≤ d ∧ d < σ 4) then -1 else if a = 5 then (if d = σ 7 then 1 else 0) else if a < 9 then x_set d a σ else x_sta d a (σ 5) σ, σ)
def q_row (d a i : Int) (σ : ev_M) : Int × ev_M := (if ¬ (0 ≤ d ∧ d < σ 4 ∧ 0 ≤ a ∧ a ≤ 1 ∧ 0 ≤ i) then -1 else if a = 0 then x_at (1000 + 100 * d + 20) i σ else x_at (1000 + 100 * d + 50) i σ, σ)
def q_sum (a : Int) (σ : ev_M) : Int × ev_M := (if 0 ≤ a ∧ a < 8 then σ (40 + a) else -1, σ)
def q_log (i a : Int) (σ : ev_M) : Int × ev_M := (if i < -1 ∨ ¬ (0 ≤ a ∧ a ≤ 2) then -1 else if i = -1 then σ 33 else x_tell i a σ, σ)
def q_tick (n : Int) (σ : ev_M) : Int × ev_M := if 1 ≤ n ∧ n ≤ 500 then (x_pass n σ 5, x_pass n σ) else (-1, σ)
def q_command (c : Int) (σ : ev_M) : Int × ev_M := if 0 ≤ c ∧ c ≤ 127 then (x_send c σ 5, x_send c σ) else (-1, σ)
def q_takeBack (σ : ev_M) : Int × ev_M := (σ 6, ev_up (ev_up (it x_enp (it x_el (ev_up σ 7 (-4)) (σ 4).toNat) (σ 4).toNat) 9 0) 6 0)
def q_write (a : Int) (σ : ev_M) : Int × ev_M := if a < 32 ∨ 126 < a then (-1, σ) else if 200 ≤ σ 22 then (-3, σ) else (σ 22 + 1, ev_up (ev_up σ (200 + σ 22) a) 22 (σ 22 + 1))
def q_wipe (σ : ev_M) : Int × ev_M := (σ 22, ev_up σ 22 0)
theorem s_X4_put {b d v : Int} {σ : ev_M} (hX : XI b σ) (hb : b ≤ 600000000) : Ev jX4_put layX 0 [some (rv 0), some (iv d), some (iv v)] [] σ (fun r σ' => (r, σ') = q_put d v σ) := by
  have h4 := hX.s4
  refine Ev.aload_n dX4_put_0 rfl ?_
  refine Ev.iload_n dX4_put_1 rfl ?_
  refine Ev.Vi1 (I' := jX4_isDevice) ml_X4_102 dX4_put_2 cyX4_isDevice lx_0 rfl (by decide) ⟨by decide, by decide⟩ (by simp) rfl rfl (s_X4_isDevice) (fun r σ' hr2 hq => ?_)
  obtain ⟨hq1, hq⟩ := hq
  replace hq := hq.symm
  subst hq
  refine Ev.if_eq (tgt := 19) dX4_put_5 rfl (fun c5 => ?_) (fun c5 => ?_)
  · skip
    refine Ev.iconst dX4_put_19 ⟨by decide, by decide⟩ ?_
    refine Ev.int rfl dX4_put_20 ?_
    unfold q_put
    repeat (first | rw [if_pos (by omega)] | rw [if_neg (by omega)])
    all_goals rfl
  · skip
    refine Ev.iload_n dX4_put_8 rfl ?_
    refine Ev.if_lt (tgt := 19) dX4_put_9 rfl (fun c9 => ?_) (fun c9 => ?_)
    · skip
      refine Ev.iconst dX4_put_19 ⟨by decide, by decide⟩ ?_
      refine Ev.int rfl dX4_put_20 ?_
      unfold q_put
      repeat (first | rw [if_pos (by omega)] | rw [if_neg (by omega)])
      all_goals rfl
    · skip
      refine Ev.iload_n dX4_put_12 rfl ?_
      refine Ev.sipush dX4_put_13 ⟨by decide, by decide⟩ (by decide) ?_
      refine Ev.icmp_le (tgt := 21) dX4_put_16 rfl (fun c16 => ?_) (fun c16 => ?_)
      · skip
        refine Ev.aload_n dX4_put_21 rfl ?_
        refine Ev.getr (50) dX4_put_22 fl_X4_18 lx_0 (by decide) rfl rfl ?_
        refine Ev.iload_n dX4_put_25 rfl ?_
        refine Ev.aald dX4_put_26 lx_50 (by omega) (by omega) ?_
        refine Ev.getr (_ + 20) dX4_put_27 fl_X4_106 (lx_dev (by omega) (by omega)) (by decide) rfl rfl ?_
        refine Ev.iload_n dX4_put_30 rfl ?_
        have a21 := hX.d21 (i := d) (by omega) (by omega)
        refine Ev.Vi1 (I' := jX0_append) ml_X4_110 dX4_put_31 cyX0_append (lx_out (by omega) (by omega)) rfl (by decide) ⟨by decide, by decide⟩ (by simp) rfl rfl (s_X0_append (lx_out (by omega) (by omega)) (lx_ob (by omega) (by omega)) (by omega) (by omega)) (fun r σ' hr31 hq => ?_)
        skip
        refine Ev.int rfl dX4_put_34 ?_
        unfold q_put
        rw [if_neg (by omega)]
        exact hq
      · skip
        refine Ev.iconst dX4_put_19 ⟨by decide, by decide⟩ ?_
        refine Ev.int rfl dX4_put_20 ?_
        unfold q_put
        repeat (first | rw [if_pos (by omega)] | rw [if_neg (by omega)])
        all_goals rfl
theorem s_X4_take {b d : Int} {σ : ev_M} (hX : XI b σ) (hb : b ≤ 600000000) : Ev jX4_take layX 0 [some (rv 0), some (iv d)] [] σ (fun r σ' => (r, σ') = q_take d σ) := by
  have h4 := hX.s4
  refine Ev.aload_n dX4_take_0 rfl ?_
  refine Ev.iload_n dX4_take_1 rfl ?_
  refine Ev.Vi1 (I' := jX4_isDevice) ml_X4_102 dX4_take_2 cyX4_isDevice lx_0 rfl (by decide) ⟨by decide, by decide⟩ (by simp) rfl rfl (s_X4_isDevice) (fun r σ' hr2 hq => ?_)
  obtain ⟨hq1, hq⟩ := hq
  replace hq := hq.symm
  subst hq
  refine Ev.if_ne (tgt := 10) dX4_take_5 rfl (fun c5 => ?_) (fun c5 => ?_)
  · skip
    refine Ev.aload_n dX4_take_10 rfl ?_
    refine Ev.getr (50) dX4_take_11 fl_X4_18 lx_0 (by decide) rfl rfl ?_
    refine Ev.iload_n dX4_take_14 rfl ?_
    refine Ev.aald dX4_take_15 lx_50 (by omega) (by omega) ?_
    refine Ev.getr (_ + 50) dX4_take_16 fl_X4_113 (lx_dev (by omega) (by omega)) (by decide) rfl rfl ?_
    have a51 := hX.d51 (i := d) (by omega) (by omega)
    refine Ev.Vi0 (I' := jX0_removeFirst) ml_X4_116 dX4_take_19 cyX0_removeFirst (lx_inn (by omega) (by omega)) rfl (by decide) ⟨by decide, by decide⟩ (by simp) rfl rfl (s_X0_removeFirst (lx_inn (by omega) (by omega)) (lx_ib (by omega) (by omega)) (by omega) (by omega)) (fun r σ' hr19 hq => ?_)
    skip
    refine Ev.int rfl dX4_take_22 ?_
    unfold q_take
    rw [if_neg (by omega)]
    exact hq
  · skip
    refine Ev.iconst dX4_take_8 ⟨by decide, by decide⟩ ?_
    refine Ev.int rfl dX4_take_9 ?_
    unfold q_take
    repeat (first | rw [if_pos (by omega)] | rw [if_neg (by omega)])
    all_goals rfl
theorem s_X4_ask {b d s a : Int} {σ : ev_M} (hX : XI b σ) (hb : b ≤ 600000000) : Ev jX4_ask layX 0 [some (rv 0), some (iv d), some (iv s), some (iv a), none] [] σ (fun r σ' => (r, σ') = q_ask d s a σ) := by
  have h4 := hX.s4
  refine Ev.aload_n dX4_ask_0 rfl ?_
  refine Ev.iload_n dX4_ask_1 rfl ?_
  refine Ev.Vi1 (I' := jX4_isDevice) ml_X4_102 dX4_ask_2 cyX4_isDevice lx_0 rfl (by decide) ⟨by decide, by decide⟩ (by simp) rfl rfl (s_X4_isDevice) (fun r σ' hr2 hq => ?_)
  obtain ⟨hq1, hq⟩ := hq
  replace hq := hq.symm
  subst hq
  refine Ev.if_eq (tgt := 27) dX4_ask_5 rfl (fun c5 => ?_) (fun c5 => ?_)
  · skip
    refine Ev.iconst dX4_ask_27 ⟨by decide, by decide⟩ ?_
    refine Ev.int rfl dX4_ask_28 ?_
    unfold q_ask
    repeat (first | rw [if_pos (by omega)] | rw [if_neg (by omega)])
    all_goals (congr 2; omega)
  · skip
    refine Ev.iload_n dX4_ask_8 rfl ?_
    refine Ev.if_lt (tgt := 27) dX4_ask_9 rfl (fun c9 => ?_) (fun c9 => ?_)
    · skip
      refine Ev.iconst dX4_ask_27 ⟨by decide, by decide⟩ ?_
      refine Ev.int rfl dX4_ask_28 ?_
      unfold q_ask
      repeat (first | rw [if_pos (by omega)] | rw [if_neg (by omega)])
      all_goals (congr 2; omega)
    · skip
      refine Ev.iload_n dX4_ask_12 rfl ?_
      refine Ev.bipush dX4_ask_13 ⟨by decide, by decide⟩ (by decide) ?_
      refine Ev.icmp_gt (tgt := 27) dX4_ask_15 rfl (fun c15 => ?_) (fun c15 => ?_)
      · skip
        refine Ev.iconst dX4_ask_27 ⟨by decide, by decide⟩ ?_
        refine Ev.int rfl dX4_ask_28 ?_
        unfold q_ask
        repeat (first | rw [if_pos (by omega)] | rw [if_neg (by omega)])
        all_goals (congr 2; omega)
      · skip
        refine Ev.iload_n dX4_ask_18 rfl ?_
        refine Ev.if_lt (tgt := 27) dX4_ask_19 rfl (fun c19 => ?_) (fun c19 => ?_)
        · skip
          refine Ev.iconst dX4_ask_27 ⟨by decide, by decide⟩ ?_
          refine Ev.int rfl dX4_ask_28 ?_
          unfold q_ask
          repeat (first | rw [if_pos (by omega)] | rw [if_neg (by omega)])
          all_goals (congr 2; omega)
        · skip
          refine Ev.iload_n dX4_ask_22 rfl ?_
          refine Ev.iconst dX4_ask_23 ⟨by decide, by decide⟩ ?_
          refine Ev.icmp_le (tgt := 29) dX4_ask_24 rfl (fun c24 => ?_) (fun c24 => ?_)
          · skip
            refine Ev.aload_n dX4_ask_29 rfl ?_
            refine Ev.getr (50) dX4_ask_30 fl_X4_18 lx_0 (by decide) rfl rfl ?_
            refine Ev.iload_n dX4_ask_33 rfl ?_
            refine Ev.aald dX4_ask_34 lx_50 (by omega) (by omega) ?_
            have a7 := hX.d7 (i := d) (by omega) (by omega)
            refine Ev.Vi0 (I' := jX2_pollByte) ml_X4_119 dX4_ask_35 cyX2_pollByte (lx_dev (by omega) (by omega)) rfl (by decide) ⟨by decide, by decide⟩ (by simp) rfl rfl (s_X2_pollByte (by omega) (by omega) (by unfold ev_in; omega)) (fun r σ' hr35 hq => ?_)
            obtain ⟨rfl, hq⟩ := hq
            replace hq := hq.symm
            subst hq
            refine Ev.istore4 dX4_ask_38 ?_
            refine Ev.aload_n dX4_ask_40 rfl ?_
            refine Ev.getr (50) dX4_ask_41 fl_X4_18 lx_0 (by decide) rfl rfl ?_
            refine Ev.iload_n dX4_ask_44 rfl ?_
            refine Ev.aald dX4_ask_45 lx_50 (by omega) (by omega) ?_
            refine Ev.iload_n dX4_ask_46 rfl ?_
            refine Ev.puti (_ + 7) dX4_ask_47 fl_X4_122 ft_2_7 (lx_dev (by omega) (by omega)) (by decide) rfl rfl ?_
            refine Ev.aload_n dX4_ask_50 rfl ?_
            refine Ev.getr (50) dX4_ask_51 fl_X4_18 lx_0 (by decide) rfl rfl ?_
            refine Ev.iload_n dX4_ask_54 rfl ?_
            refine Ev.aald dX4_ask_55 lx_50 (by omega) (by omega) ?_
            refine Ev.iload_n dX4_ask_56 rfl ?_
            refine Ev.iconst dX4_ask_57 ⟨by decide, by decide⟩ ?_
            refine Ev.icmp_ne (tgt := 65) dX4_ask_58 rfl (fun c58 => ?_) (fun c58 => ?_)
            · skip
              refine Ev.iconst dX4_ask_65 ⟨by decide, by decide⟩ ?_
              refine Ev.putz (_ + 8) dX4_ask_66 fl_X4_125 ft_2_8 (lx_dev (by omega) (by omega)) (by decide) rfl rfl (by omega) ?_
              refine Ev.iload dX4_ask_69 rfl ?_
              refine Ev.int rfl dX4_ask_71 ?_
              unfold q_ask
              repeat (first | rw [if_pos (by omega)] | rw [if_neg (by omega)])
              all_goals (congr 2; omega)
            · skip
              refine Ev.iconst dX4_ask_61 ⟨by decide, by decide⟩ ?_
              refine Ev.goto (tgt := 66) dX4_ask_62 rfl ?_
              refine Ev.putz (_ + 8) dX4_ask_66 fl_X4_125 ft_2_8 (lx_dev (by omega) (by omega)) (by decide) rfl rfl (by omega) ?_
              refine Ev.iload dX4_ask_69 rfl ?_
              refine Ev.int rfl dX4_ask_71 ?_
              unfold q_ask
              repeat (first | rw [if_pos (by omega)] | rw [if_neg (by omega)])
              all_goals (congr 2; omega)
          · skip
            refine Ev.iconst dX4_ask_27 ⟨by decide, by decide⟩ ?_
            refine Ev.int rfl dX4_ask_28 ?_
            unfold q_ask
            repeat (first | rw [if_pos (by omega)] | rw [if_neg (by omega)])
            all_goals (congr 2; omega)
theorem s_X4_front {b d : Int} {σ : ev_M} (hX : XI b σ) (hb : b ≤ 600000000) : Ev jX4_front layX 0 [some (rv 0), some (iv d)] [] σ (fun r σ' => (r, σ') = q_front d σ) := by
  have h4 := hX.s4
  refine Ev.aload_n dX4_front_0 rfl ?_
  refine Ev.iload_n dX4_front_1 rfl ?_
  refine Ev.Vi1 (I' := jX4_isDevice) ml_X4_102 dX4_front_2 cyX4_isDevice lx_0 rfl (by decide) ⟨by decide, by decide⟩ (by simp) rfl rfl (s_X4_isDevice) (fun r σ' hr2 hq => ?_)
  obtain ⟨hq1, hq⟩ := hq
  replace hq := hq.symm
  subst hq
  refine Ev.if_ne (tgt := 10) dX4_front_5 rfl (fun c5 => ?_) (fun c5 => ?_)
  · skip
    refine Ev.aload_n dX4_front_10 rfl ?_
    refine Ev.getr (50) dX4_front_11 fl_X4_18 lx_0 (by decide) rfl rfl ?_
    refine Ev.iload_n dX4_front_14 rfl ?_
    refine Ev.aald dX4_front_15 lx_50 (by omega) (by omega) ?_
    refine Ev.geti (_ + 11) dX4_front_16 fl_X4_128 (lx_dev (by omega) (by omega)) (by decide) rfl rfl ?_
    refine Ev.if_ne (tgt := 32) dX4_front_19 rfl (fun c19 => ?_) (fun c19 => ?_)
    · skip
      refine Ev.aload_n dX4_front_32 rfl ?_
      refine Ev.getr (50) dX4_front_33 fl_X4_18 lx_0 (by decide) rfl rfl ?_
      refine Ev.iload_n dX4_front_36 rfl ?_
      refine Ev.aald dX4_front_37 lx_50 (by omega) (by omega) ?_
      refine Ev.geti (_ + 10) dX4_front_38 fl_X4_131 (lx_dev (by omega) (by omega)) (by decide) rfl rfl ?_
      refine Ev.if_ne (tgt := 48) dX4_front_41 rfl (fun c41 => ?_) (fun c41 => ?_)
      · skip
        refine Ev.iconst dX4_front_48 ⟨by decide, by decide⟩ ?_
        refine Ev.Si1 (I' := jX4_bit) ml_X4_134 dX4_front_49 cyX4_bit (by decide) ⟨by decide, by decide⟩ (by simp) rfl rfl (s_X4_bit (by omega)) (fun r σ' hr49 hq => ?_)
        obtain ⟨rfl, hq⟩ := hq
        replace hq := hq.symm
        subst hq
        refine Ev.int rfl dX4_front_52 ?_
        unfold q_front
        first | (exfalso; omega) | (repeat (first | rw [if_pos (by omega)] | rw [if_neg (by omega)]))
        all_goals rfl
      · skip
        refine Ev.iconst dX4_front_44 ⟨by decide, by decide⟩ ?_
        refine Ev.goto (tgt := 49) dX4_front_45 rfl ?_
        refine Ev.Si1 (I' := jX4_bit) ml_X4_134 dX4_front_49 cyX4_bit (by decide) ⟨by decide, by decide⟩ (by simp) rfl rfl (s_X4_bit (by omega)) (fun r σ' hr49 hq => ?_)
        obtain ⟨rfl, hq⟩ := hq
        replace hq := hq.symm
        subst hq
        refine Ev.int rfl dX4_front_52 ?_
        unfold q_front
        first | (exfalso; omega) | (repeat (first | rw [if_pos (by omega)] | rw [if_neg (by omega)]))
        all_goals rfl
    · skip
      refine Ev.aload_n dX4_front_22 rfl ?_
      refine Ev.getr (50) dX4_front_23 fl_X4_18 lx_0 (by decide) rfl rfl ?_
      refine Ev.iload_n dX4_front_26 rfl ?_
      refine Ev.aald dX4_front_27 lx_50 (by omega) (by omega) ?_
      refine Ev.iconst dX4_front_28 ⟨by decide, by decide⟩ ?_
      refine Ev.putz (_ + 10) dX4_front_29 fl_X4_131 ft_2_10 (lx_dev (by omega) (by omega)) (by decide) rfl rfl (by omega) ?_
      refine Ev.aload_n dX4_front_32 rfl ?_
      refine Ev.getr (50) dX4_front_33 fl_X4_18 lx_0 (by decide) rfl rfl ?_
      refine Ev.iload_n dX4_front_36 rfl ?_
      refine Ev.aald dX4_front_37 lx_50 (by omega) (by omega) ?_
      refine Ev.geti (_ + 10) dX4_front_38 fl_X4_131 (lx_dev (by omega) (by omega)) (by decide) rfl rfl ?_
      try simp (disch := omega) only [ev_up_ne, ev_up_eqs]
      refine Ev.if_ne (tgt := 48) dX4_front_41 rfl (fun c41 => ?_) (fun c41 => ?_)
      · skip
        refine Ev.iconst dX4_front_48 ⟨by decide, by decide⟩ ?_
        refine Ev.Si1 (I' := jX4_bit) ml_X4_134 dX4_front_49 cyX4_bit (by decide) ⟨by decide, by decide⟩ (by simp) rfl rfl (s_X4_bit (by omega)) (fun r σ' hr49 hq => ?_)
        obtain ⟨rfl, hq⟩ := hq
        replace hq := hq.symm
        subst hq
        try simp (disch := omega) only [ev_up_ne, ev_up_eqs]
        refine Ev.int rfl dX4_front_52 ?_
        unfold q_front
        first | (exfalso; omega) | (repeat (first | rw [if_pos (by omega)] | rw [if_neg (by omega)]))
        all_goals rfl
      · skip
        refine Ev.iconst dX4_front_44 ⟨by decide, by decide⟩ ?_
        refine Ev.goto (tgt := 49) dX4_front_45 rfl ?_
        refine Ev.Si1 (I' := jX4_bit) ml_X4_134 dX4_front_49 cyX4_bit (by decide) ⟨by decide, by decide⟩ (by simp) rfl rfl (s_X4_bit (by omega)) (fun r σ' hr49 hq => ?_)
        obtain ⟨rfl, hq⟩ := hq
        replace hq := hq.symm
        subst hq
        try simp (disch := omega) only [ev_up_ne, ev_up_eqs]
        refine Ev.int rfl dX4_front_52 ?_
        unfold q_front
        first | (exfalso; omega) | (repeat (first | rw [if_pos (by omega)] | rw [if_neg (by omega)]))
        all_goals rfl
  · skip
    refine Ev.iconst dX4_front_8 ⟨by decide, by decide⟩ ?_
    refine Ev.int rfl dX4_front_9 ?_
    unfold q_front
    first | (exfalso; omega) | (repeat (first | rw [if_pos (by omega)] | rw [if_neg (by omega)]))
    all_goals rfl
theorem s_X4_tune {b d a v : Int} {σ : ev_M} (hX : XI b σ) (hb : b ≤ 600000000) : Ev jX4_tune layX 0 [some (rv 0), some (iv d), some (iv a), some (iv v), none, none] [] σ (fun r σ' => (r, σ') = q_tune d a v σ) := by
  have h4 := hX.s4
  have l3 := hX.st503
  have l4 := hX.st504
  have g3 := hX.st513
  have g4 := hX.st514
  refine Ev.aload_n dX4_tune_0 rfl ?_
  refine Ev.iload_n dX4_tune_1 rfl ?_
  refine Ev.Vi1 (I' := jX4_isDevice) ml_X4_102 dX4_tune_2 cyX4_isDevice lx_0 rfl (by decide) ⟨by decide, by decide⟩ (by simp) rfl rfl (s_X4_isDevice) (fun r σ' hr2 hq => ?_)
  obtain ⟨hq1, hq⟩ := hq
  replace hq := hq.symm
  subst hq
  refine Ev.if_eq (tgt := 17) dX4_tune_5 rfl (fun c5 => ?_) (fun c5 => ?_)
  · skip
    refine Ev.iconst dX4_tune_17 ⟨by decide, by decide⟩ ?_
    refine Ev.int rfl dX4_tune_18 ?_
    first | (exfalso; omega) | (unfold q_tune; rcases (show a = 0 ∨ a = 1 ∨ ¬ (0 ≤ a ∧ a ≤ 1) by omega) with rfl | rfl | ha <;> first | (exfalso; omega) | (rw [if_pos (by simp; omega)]; done) | (rw [if_neg (by simp; omega)]; simp; omega))
  · skip
    refine Ev.iload_n dX4_tune_8 rfl ?_
    refine Ev.if_lt (tgt := 17) dX4_tune_9 rfl (fun c9 => ?_) (fun c9 => ?_)
    · skip
      refine Ev.iconst dX4_tune_17 ⟨by decide, by decide⟩ ?_
      refine Ev.int rfl dX4_tune_18 ?_
      first | (exfalso; omega) | (unfold q_tune; rcases (show a = 0 ∨ a = 1 ∨ ¬ (0 ≤ a ∧ a ≤ 1) by omega) with rfl | rfl | ha <;> first | (exfalso; omega) | (rw [if_pos (by simp; omega)]; done) | (rw [if_neg (by simp; omega)]; simp; omega))
    · skip
      refine Ev.iload_n dX4_tune_12 rfl ?_
      refine Ev.iconst dX4_tune_13 ⟨by decide, by decide⟩ ?_
      refine Ev.icmp_le (tgt := 19) dX4_tune_14 rfl (fun c14 => ?_) (fun c14 => ?_)
      · skip
        refine Ev.iload_n dX4_tune_19 rfl ?_
        refine Ev.if_ne (tgt := 27) dX4_tune_20 rfl (fun c20 => ?_) (fun c20 => ?_)
        · skip
          refine Ev.iconst dX4_tune_27 ⟨by decide, by decide⟩ ?_
          have ea : a = 0 ∨ a = 1 := by omega
          refine Ev.istore4 dX4_tune_28 ?_
          refine Ev.iload_n dX4_tune_30 rfl ?_
          refine Ev.gets dX4_tune_31 lx_500 gs_X4_138 ?_
          refine Ev.iload dX4_tune_34 rfl ?_
          refine Ev.iald dX4_tune_36 lx_500 (Or.inr rfl) (by omega) (by omega) ?_
          first | rw [show (500 : Int) + 3 = 503 from rfl, l3] | rw [show (500 : Int) + 4 = 504 from rfl, l4]
          refine Ev.icmp_lt (tgt := 50) dX4_tune_37 rfl (fun c37 => ?_) (fun c37 => ?_)
          · skip
            refine Ev.iconst dX4_tune_50 ⟨by decide, by decide⟩ ?_
            refine Ev.int rfl dX4_tune_51 ?_
            first | (exfalso; omega) | (unfold q_tune; rcases (show a = 0 ∨ a = 1 ∨ ¬ (0 ≤ a ∧ a ≤ 1) by omega) with rfl | rfl | ha <;> first | (exfalso; omega) | (rw [if_pos (by simp; omega)]; done) | (rw [if_neg (by simp; omega)]; simp; omega))
          · skip
            refine Ev.iload_n dX4_tune_40 rfl ?_
            refine Ev.gets dX4_tune_41 lx_510 gs_X4_141 ?_
            refine Ev.iload dX4_tune_44 rfl ?_
            refine Ev.iald dX4_tune_46 lx_510 (Or.inr rfl) (by omega) (by omega) ?_
            first | rw [show (510 : Int) + 3 = 513 from rfl, g3] | rw [show (510 : Int) + 4 = 514 from rfl, g4]
            refine Ev.icmp_le (tgt := 52) dX4_tune_47 rfl (fun c47 => ?_) (fun c47 => ?_)
            · skip
              refine Ev.iload_n dX4_tune_52 rfl ?_
              refine Ev.if_ne (tgt := 68) dX4_tune_53 rfl (fun c53 => ?_) (fun c53 => ?_)
              · skip
                refine Ev.aload_n dX4_tune_68 rfl ?_
                refine Ev.getr (50) dX4_tune_69 fl_X4_18 lx_0 (by decide) rfl rfl ?_
                refine Ev.iload_n dX4_tune_72 rfl ?_
                refine Ev.aald dX4_tune_73 lx_50 (by omega) (by omega) ?_
                refine Ev.geti (_ + 6) dX4_tune_74 fl_X4_147 (lx_dev (by omega) (by omega)) (by decide) rfl rfl ?_
                refine Ev.istore5 dX4_tune_77 ?_
                refine Ev.iload_n dX4_tune_79 rfl ?_
                refine Ev.iload dX4_tune_80 rfl ?_
                refine Ev.icmp_ne (tgt := 88) dX4_tune_82 rfl (fun c82 => ?_) (fun c82 => ?_)
                · skip
                  refine Ev.iload_n dX4_tune_88 rfl ?_
                  refine Ev.if_ne (tgt := 105) dX4_tune_89 rfl (fun c89 => ?_) (fun c89 => ?_)
                  · skip
                    refine Ev.aload_n dX4_tune_105 rfl ?_
                    refine Ev.getr (50) dX4_tune_106 fl_X4_18 lx_0 (by decide) rfl rfl ?_
                    refine Ev.iload_n dX4_tune_109 rfl ?_
                    refine Ev.aald dX4_tune_110 lx_50 (by omega) (by omega) ?_
                    refine Ev.iload_n dX4_tune_111 rfl ?_
                    refine Ev.puti (_ + 6) dX4_tune_112 fl_X4_147 ft_2_6 (lx_dev (by omega) (by omega)) (by decide) rfl rfl ?_
                    refine Ev.iload dX4_tune_115 rfl ?_
                    refine Ev.int rfl dX4_tune_117 ?_
                    first | (exfalso; omega) | (unfold q_tune; rcases (show a = 0 ∨ a = 1 ∨ ¬ (0 ≤ a ∧ a ≤ 1) by omega) with rfl | rfl | ha <;> first | (exfalso; omega) | (rw [if_pos (by simp; omega)]; done) | (rw [if_neg (by simp; omega)]; simp; omega))
                  · skip
                    refine Ev.aload_n dX4_tune_92 rfl ?_
                    refine Ev.getr (50) dX4_tune_93 fl_X4_18 lx_0 (by decide) rfl rfl ?_
                    refine Ev.iload_n dX4_tune_96 rfl ?_
                    refine Ev.aald dX4_tune_97 lx_50 (by omega) (by omega) ?_
                    refine Ev.iload_n dX4_tune_98 rfl ?_
                    refine Ev.puti (_ + 5) dX4_tune_99 fl_X4_144 ft_2_5 (lx_dev (by omega) (by omega)) (by decide) rfl rfl ?_
                    refine Ev.goto (tgt := 115) dX4_tune_102 rfl ?_
                    refine Ev.iload dX4_tune_115 rfl ?_
                    refine Ev.int rfl dX4_tune_117 ?_
                    first | (exfalso; omega) | (unfold q_tune; rcases (show a = 0 ∨ a = 1 ∨ ¬ (0 ≤ a ∧ a ≤ 1) by omega) with rfl | rfl | ha <;> first | (exfalso; omega) | (rw [if_pos (by simp; omega)]; done) | (rw [if_neg (by simp; omega)]; simp; omega))
                · skip
                  refine Ev.bipush dX4_tune_85 ⟨by decide, by decide⟩ (by decide) ?_
                  refine Ev.int rfl dX4_tune_87 ?_
                  first | (exfalso; omega) | (unfold q_tune; rcases (show a = 0 ∨ a = 1 ∨ ¬ (0 ≤ a ∧ a ≤ 1) by omega) with rfl | rfl | ha <;> first | (exfalso; omega) | (rw [if_pos (by simp; omega)]; done) | (rw [if_neg (by simp; omega)]; simp; omega))
              · skip
                refine Ev.aload_n dX4_tune_56 rfl ?_
                refine Ev.getr (50) dX4_tune_57 fl_X4_18 lx_0 (by decide) rfl rfl ?_
                refine Ev.iload_n dX4_tune_60 rfl ?_
                refine Ev.aald dX4_tune_61 lx_50 (by omega) (by omega) ?_
                refine Ev.geti (_ + 5) dX4_tune_62 fl_X4_144 (lx_dev (by omega) (by omega)) (by decide) rfl rfl ?_
                refine Ev.goto (tgt := 77) dX4_tune_65 rfl ?_
                refine Ev.istore5 dX4_tune_77 ?_
                refine Ev.iload_n dX4_tune_79 rfl ?_
                refine Ev.iload dX4_tune_80 rfl ?_
                refine Ev.icmp_ne (tgt := 88) dX4_tune_82 rfl (fun c82 => ?_) (fun c82 => ?_)
                · skip
                  refine Ev.iload_n dX4_tune_88 rfl ?_
                  refine Ev.if_ne (tgt := 105) dX4_tune_89 rfl (fun c89 => ?_) (fun c89 => ?_)
                  · skip
                    refine Ev.aload_n dX4_tune_105 rfl ?_
                    refine Ev.getr (50) dX4_tune_106 fl_X4_18 lx_0 (by decide) rfl rfl ?_
                    refine Ev.iload_n dX4_tune_109 rfl ?_
                    refine Ev.aald dX4_tune_110 lx_50 (by omega) (by omega) ?_
                    refine Ev.iload_n dX4_tune_111 rfl ?_
                    refine Ev.puti (_ + 6) dX4_tune_112 fl_X4_147 ft_2_6 (lx_dev (by omega) (by omega)) (by decide) rfl rfl ?_
                    refine Ev.iload dX4_tune_115 rfl ?_
                    refine Ev.int rfl dX4_tune_117 ?_
                    first | (exfalso; omega) | (unfold q_tune; rcases (show a = 0 ∨ a = 1 ∨ ¬ (0 ≤ a ∧ a ≤ 1) by omega) with rfl | rfl | ha <;> first | (exfalso; omega) | (rw [if_pos (by simp; omega)]; done) | (rw [if_neg (by simp; omega)]; simp; omega))
                  · skip
                    refine Ev.aload_n dX4_tune_92 rfl ?_
                    refine Ev.getr (50) dX4_tune_93 fl_X4_18 lx_0 (by decide) rfl rfl ?_
                    refine Ev.iload_n dX4_tune_96 rfl ?_
                    refine Ev.aald dX4_tune_97 lx_50 (by omega) (by omega) ?_
                    refine Ev.iload_n dX4_tune_98 rfl ?_
                    refine Ev.puti (_ + 5) dX4_tune_99 fl_X4_144 ft_2_5 (lx_dev (by omega) (by omega)) (by decide) rfl rfl ?_
                    refine Ev.goto (tgt := 115) dX4_tune_102 rfl ?_
                    refine Ev.iload dX4_tune_115 rfl ?_
                    refine Ev.int rfl dX4_tune_117 ?_
                    first | (exfalso; omega) | (unfold q_tune; rcases (show a = 0 ∨ a = 1 ∨ ¬ (0 ≤ a ∧ a ≤ 1) by omega) with rfl | rfl | ha <;> first | (exfalso; omega) | (rw [if_pos (by simp; omega)]; done) | (rw [if_neg (by simp; omega)]; simp; omega))
                · skip
                  refine Ev.bipush dX4_tune_85 ⟨by decide, by decide⟩ (by decide) ?_
                  refine Ev.int rfl dX4_tune_87 ?_
                  first | (exfalso; omega) | (unfold q_tune; rcases (show a = 0 ∨ a = 1 ∨ ¬ (0 ≤ a ∧ a ≤ 1) by omega) with rfl | rfl | ha <;> first | (exfalso; omega) | (rw [if_pos (by simp; omega)]; done) | (rw [if_neg (by simp; omega)]; simp; omega))
            · skip
              refine Ev.iconst dX4_tune_50 ⟨by decide, by decide⟩ ?_
              refine Ev.int rfl dX4_tune_51 ?_
              first | (exfalso; omega) | (unfold q_tune; rcases (show a = 0 ∨ a = 1 ∨ ¬ (0 ≤ a ∧ a ≤ 1) by omega) with rfl | rfl | ha <;> first | (exfalso; omega) | (rw [if_pos (by simp; omega)]; done) | (rw [if_neg (by simp; omega)]; simp; omega))
        · skip
          refine Ev.iconst dX4_tune_23 ⟨by decide, by decide⟩ ?_
          refine Ev.goto (tgt := 28) dX4_tune_24 rfl ?_
          have ea : a = 0 ∨ a = 1 := by omega
          refine Ev.istore4 dX4_tune_28 ?_
          refine Ev.iload_n dX4_tune_30 rfl ?_
          refine Ev.gets dX4_tune_31 lx_500 gs_X4_138 ?_
          refine Ev.iload dX4_tune_34 rfl ?_
          refine Ev.iald dX4_tune_36 lx_500 (Or.inr rfl) (by omega) (by omega) ?_
          first | rw [show (500 : Int) + 3 = 503 from rfl, l3] | rw [show (500 : Int) + 4 = 504 from rfl, l4]
          refine Ev.icmp_lt (tgt := 50) dX4_tune_37 rfl (fun c37 => ?_) (fun c37 => ?_)
          · skip
            refine Ev.iconst dX4_tune_50 ⟨by decide, by decide⟩ ?_
            refine Ev.int rfl dX4_tune_51 ?_
            first | (exfalso; omega) | (unfold q_tune; rcases (show a = 0 ∨ a = 1 ∨ ¬ (0 ≤ a ∧ a ≤ 1) by omega) with rfl | rfl | ha <;> first | (exfalso; omega) | (rw [if_pos (by simp; omega)]; done) | (rw [if_neg (by simp; omega)]; simp; omega))
          · skip
            refine Ev.iload_n dX4_tune_40 rfl ?_
            refine Ev.gets dX4_tune_41 lx_510 gs_X4_141 ?_
            refine Ev.iload dX4_tune_44 rfl ?_
            refine Ev.iald dX4_tune_46 lx_510 (Or.inr rfl) (by omega) (by omega) ?_
            first | rw [show (510 : Int) + 3 = 513 from rfl, g3] | rw [show (510 : Int) + 4 = 514 from rfl, g4]
            refine Ev.icmp_le (tgt := 52) dX4_tune_47 rfl (fun c47 => ?_) (fun c47 => ?_)
            · skip
              refine Ev.iload_n dX4_tune_52 rfl ?_
              refine Ev.if_ne (tgt := 68) dX4_tune_53 rfl (fun c53 => ?_) (fun c53 => ?_)
              · skip
                refine Ev.aload_n dX4_tune_68 rfl ?_
                refine Ev.getr (50) dX4_tune_69 fl_X4_18 lx_0 (by decide) rfl rfl ?_
                refine Ev.iload_n dX4_tune_72 rfl ?_
                refine Ev.aald dX4_tune_73 lx_50 (by omega) (by omega) ?_
                refine Ev.geti (_ + 6) dX4_tune_74 fl_X4_147 (lx_dev (by omega) (by omega)) (by decide) rfl rfl ?_
                refine Ev.istore5 dX4_tune_77 ?_
                refine Ev.iload_n dX4_tune_79 rfl ?_
                refine Ev.iload dX4_tune_80 rfl ?_
                refine Ev.icmp_ne (tgt := 88) dX4_tune_82 rfl (fun c82 => ?_) (fun c82 => ?_)
                · skip
                  refine Ev.iload_n dX4_tune_88 rfl ?_
                  refine Ev.if_ne (tgt := 105) dX4_tune_89 rfl (fun c89 => ?_) (fun c89 => ?_)
                  · skip
                    refine Ev.aload_n dX4_tune_105 rfl ?_
                    refine Ev.getr (50) dX4_tune_106 fl_X4_18 lx_0 (by decide) rfl rfl ?_
                    refine Ev.iload_n dX4_tune_109 rfl ?_
                    refine Ev.aald dX4_tune_110 lx_50 (by omega) (by omega) ?_
                    refine Ev.iload_n dX4_tune_111 rfl ?_
                    refine Ev.puti (_ + 6) dX4_tune_112 fl_X4_147 ft_2_6 (lx_dev (by omega) (by omega)) (by decide) rfl rfl ?_
                    refine Ev.iload dX4_tune_115 rfl ?_
                    refine Ev.int rfl dX4_tune_117 ?_
                    first | (exfalso; omega) | (unfold q_tune; rcases (show a = 0 ∨ a = 1 ∨ ¬ (0 ≤ a ∧ a ≤ 1) by omega) with rfl | rfl | ha <;> first | (exfalso; omega) | (rw [if_pos (by simp; omega)]; done) | (rw [if_neg (by simp; omega)]; simp; omega))
                  · skip
                    refine Ev.aload_n dX4_tune_92 rfl ?_
                    refine Ev.getr (50) dX4_tune_93 fl_X4_18 lx_0 (by decide) rfl rfl ?_
                    refine Ev.iload_n dX4_tune_96 rfl ?_
                    refine Ev.aald dX4_tune_97 lx_50 (by omega) (by omega) ?_
                    refine Ev.iload_n dX4_tune_98 rfl ?_
                    refine Ev.puti (_ + 5) dX4_tune_99 fl_X4_144 ft_2_5 (lx_dev (by omega) (by omega)) (by decide) rfl rfl ?_
                    refine Ev.goto (tgt := 115) dX4_tune_102 rfl ?_
                    refine Ev.iload dX4_tune_115 rfl ?_
                    refine Ev.int rfl dX4_tune_117 ?_
                    first | (exfalso; omega) | (unfold q_tune; rcases (show a = 0 ∨ a = 1 ∨ ¬ (0 ≤ a ∧ a ≤ 1) by omega) with rfl | rfl | ha <;> first | (exfalso; omega) | (rw [if_pos (by simp; omega)]; done) | (rw [if_neg (by simp; omega)]; simp; omega))
                · skip
                  refine Ev.bipush dX4_tune_85 ⟨by decide, by decide⟩ (by decide) ?_
                  refine Ev.int rfl dX4_tune_87 ?_
                  first | (exfalso; omega) | (unfold q_tune; rcases (show a = 0 ∨ a = 1 ∨ ¬ (0 ≤ a ∧ a ≤ 1) by omega) with rfl | rfl | ha <;> first | (exfalso; omega) | (rw [if_pos (by simp; omega)]; done) | (rw [if_neg (by simp; omega)]; simp; omega))
              · skip
                refine Ev.aload_n dX4_tune_56 rfl ?_
                refine Ev.getr (50) dX4_tune_57 fl_X4_18 lx_0 (by decide) rfl rfl ?_
                refine Ev.iload_n dX4_tune_60 rfl ?_
                refine Ev.aald dX4_tune_61 lx_50 (by omega) (by omega) ?_
                refine Ev.geti (_ + 5) dX4_tune_62 fl_X4_144 (lx_dev (by omega) (by omega)) (by decide) rfl rfl ?_
                refine Ev.goto (tgt := 77) dX4_tune_65 rfl ?_
                refine Ev.istore5 dX4_tune_77 ?_
                refine Ev.iload_n dX4_tune_79 rfl ?_
                refine Ev.iload dX4_tune_80 rfl ?_
                refine Ev.icmp_ne (tgt := 88) dX4_tune_82 rfl (fun c82 => ?_) (fun c82 => ?_)
                · skip
                  refine Ev.iload_n dX4_tune_88 rfl ?_
                  refine Ev.if_ne (tgt := 105) dX4_tune_89 rfl (fun c89 => ?_) (fun c89 => ?_)
                  · skip
                    refine Ev.aload_n dX4_tune_105 rfl ?_
                    refine Ev.getr (50) dX4_tune_106 fl_X4_18 lx_0 (by decide) rfl rfl ?_
                    refine Ev.iload_n dX4_tune_109 rfl ?_
                    refine Ev.aald dX4_tune_110 lx_50 (by omega) (by omega) ?_
                    refine Ev.iload_n dX4_tune_111 rfl ?_
                    refine Ev.puti (_ + 6) dX4_tune_112 fl_X4_147 ft_2_6 (lx_dev (by omega) (by omega)) (by decide) rfl rfl ?_
                    refine Ev.iload dX4_tune_115 rfl ?_
                    refine Ev.int rfl dX4_tune_117 ?_
                    first | (exfalso; omega) | (unfold q_tune; rcases (show a = 0 ∨ a = 1 ∨ ¬ (0 ≤ a ∧ a ≤ 1) by omega) with rfl | rfl | ha <;> first | (exfalso; omega) | (rw [if_pos (by simp; omega)]; done) | (rw [if_neg (by simp; omega)]; simp; omega))
                  · skip
                    refine Ev.aload_n dX4_tune_92 rfl ?_
                    refine Ev.getr (50) dX4_tune_93 fl_X4_18 lx_0 (by decide) rfl rfl ?_
                    refine Ev.iload_n dX4_tune_96 rfl ?_
                    refine Ev.aald dX4_tune_97 lx_50 (by omega) (by omega) ?_
                    refine Ev.iload_n dX4_tune_98 rfl ?_
                    refine Ev.puti (_ + 5) dX4_tune_99 fl_X4_144 ft_2_5 (lx_dev (by omega) (by omega)) (by decide) rfl rfl ?_
                    refine Ev.goto (tgt := 115) dX4_tune_102 rfl ?_
                    refine Ev.iload dX4_tune_115 rfl ?_
                    refine Ev.int rfl dX4_tune_117 ?_
                    first | (exfalso; omega) | (unfold q_tune; rcases (show a = 0 ∨ a = 1 ∨ ¬ (0 ≤ a ∧ a ≤ 1) by omega) with rfl | rfl | ha <;> first | (exfalso; omega) | (rw [if_pos (by simp; omega)]; done) | (rw [if_neg (by simp; omega)]; simp; omega))
                · skip
                  refine Ev.bipush dX4_tune_85 ⟨by decide, by decide⟩ (by decide) ?_
                  refine Ev.int rfl dX4_tune_87 ?_
                  first | (exfalso; omega) | (unfold q_tune; rcases (show a = 0 ∨ a = 1 ∨ ¬ (0 ≤ a ∧ a ≤ 1) by omega) with rfl | rfl | ha <;> first | (exfalso; omega) | (rw [if_pos (by simp; omega)]; done) | (rw [if_neg (by simp; omega)]; simp; omega))
            · skip
              refine Ev.iconst dX4_tune_50 ⟨by decide, by decide⟩ ?_
              refine Ev.int rfl dX4_tune_51 ?_
              first | (exfalso; omega) | (unfold q_tune; rcases (show a = 0 ∨ a = 1 ∨ ¬ (0 ≤ a ∧ a ≤ 1) by omega) with rfl | rfl | ha <;> first | (exfalso; omega) | (rw [if_pos (by simp; omega)]; done) | (rw [if_neg (by simp; omega)]; simp; omega))
      · skip
        refine Ev.iconst dX4_tune_17 ⟨by decide, by decide⟩ ?_
        refine Ev.int rfl dX4_tune_18 ?_
        first | (exfalso; omega) | (unfold q_tune; rcases (show a = 0 ∨ a = 1 ∨ ¬ (0 ≤ a ∧ a ≤ 1) by omega) with rfl | rfl | ha <;> first | (exfalso; omega) | (rw [if_pos (by simp; omega)]; done) | (rw [if_neg (by simp; omega)]; simp; omega))
theorem s_X4_device {b d a : Int} {σ : ev_M} (hX : XI b σ) (hb : b ≤ 600000000) : Ev jX4_device layX 0 [some (rv 0), some (iv d), some (iv a)] [] σ (fun r σ' => (r, σ') = q_device d a σ) := by
  have h4 := hX.s4
  refine Ev.aload_n dX4_device_0 rfl ?_
  refine Ev.iload_n dX4_device_1 rfl ?_
  refine Ev.Vi1 (I' := jX4_isDevice) ml_X4_102 dX4_device_2 cyX4_isDevice lx_0 rfl (by decide) ⟨by decide, by decide⟩ (by simp) rfl rfl (s_X4_isDevice) (fun r σ' hr2 hq => ?_)
  obtain ⟨hq1, hq⟩ := hq
  replace hq := hq.symm
  subst hq
  refine Ev.if_ne (tgt := 10) dX4_device_5 rfl (fun c5 => ?_) (fun c5 => ?_)
  · skip
    refine Ev.iload_n dX4_device_10 rfl ?_
    refine Ev.iconst dX4_device_11 ⟨by decide, by decide⟩ ?_
    refine Ev.icmp_ne (tgt := 32) dX4_device_12 rfl (fun c12 => ?_) (fun c12 => ?_)
    · skip
      refine Ev.iload_n dX4_device_32 rfl ?_
      refine Ev.bipush dX4_device_33 ⟨by decide, by decide⟩ (by decide) ?_
      refine Ev.icmp_ge (tgt := 51) dX4_device_35 rfl (fun c35 => ?_) (fun c35 => ?_)
      · skip
        refine Ev.aload_n dX4_device_51 rfl ?_
        refine Ev.getr (50) dX4_device_52 fl_X4_18 lx_0 (by decide) rfl rfl ?_
        refine Ev.iload_n dX4_device_55 rfl ?_
        refine Ev.aald dX4_device_56 lx_50 (by omega) (by omega) ?_
        refine Ev.iload_n dX4_device_57 rfl ?_
        refine Ev.aload_n dX4_device_58 rfl ?_
        refine Ev.geti (5) dX4_device_59 fl_X4_70 lx_0 (by decide) rfl rfl ?_
        have a17 := hX.d17 (i := d) (by omega) (by omega)
        have a5 := hX.s5
        refine Ev.Vi2 (I' := jX2_tellState) ml_X4_153 dX4_device_62 cyX2_tellState (lx_dev (by omega) (by omega)) rfl (by decide) ⟨by decide, by decide⟩ (by simp) rfl rfl (s_X2_tellState (by omega) (by omega) hX (by unfold ev_in; omega)) (fun r σ' hr62 hq => ?_)
        obtain ⟨rfl, hq⟩ := hq
        replace hq := hq.symm
        subst hq
        refine Ev.int rfl dX4_device_65 ?_
        unfold q_device
        repeat (first | rw [if_pos (by omega)] | rw [if_neg (by omega)])
        all_goals rfl
      · skip
        refine Ev.aload_n dX4_device_38 rfl ?_
        refine Ev.getr (50) dX4_device_39 fl_X4_18 lx_0 (by decide) rfl rfl ?_
        refine Ev.iload_n dX4_device_42 rfl ?_
        refine Ev.aald dX4_device_43 lx_50 (by omega) (by omega) ?_
        refine Ev.iload_n dX4_device_44 rfl ?_
        refine Ev.Vi1 (I' := jX2_tellSetting) ml_X4_150 dX4_device_45 cyX2_tellSetting (lx_dev (by omega) (by omega)) rfl (by decide) ⟨by decide, by decide⟩ (by simp) rfl rfl (s_X2_tellSetting (by omega) (by omega) hX) (fun r σ' hr45 hq => ?_)
        obtain ⟨rfl, hq⟩ := hq
        replace hq := hq.symm
        subst hq
        refine Ev.goto (tgt := 65) dX4_device_48 rfl ?_
        refine Ev.int rfl dX4_device_65 ?_
        unfold q_device
        repeat (first | rw [if_pos (by omega)] | rw [if_neg (by omega)])
        all_goals rfl
    · skip
      refine Ev.iload_n dX4_device_15 rfl ?_
      refine Ev.aload_n dX4_device_16 rfl ?_
      refine Ev.geti (7) dX4_device_17 fl_X4_89 lx_0 (by decide) rfl rfl ?_
      refine Ev.icmp_ne (tgt := 27) dX4_device_20 rfl (fun c20 => ?_) (fun c20 => ?_)
      · skip
        refine Ev.iconst dX4_device_27 ⟨by decide, by decide⟩ ?_
        refine Ev.Si1 (I' := jX4_bit) ml_X4_134 dX4_device_28 cyX4_bit (by decide) ⟨by decide, by decide⟩ (by simp) rfl rfl (s_X4_bit (by omega)) (fun r σ' hr28 hq => ?_)
        obtain ⟨rfl, hq⟩ := hq
        replace hq := hq.symm
        subst hq
        refine Ev.int rfl dX4_device_31 ?_
        unfold q_device
        repeat (first | rw [if_pos (by omega)] | rw [if_neg (by omega)])
        all_goals rfl
      · skip
        refine Ev.iconst dX4_device_23 ⟨by decide, by decide⟩ ?_
        refine Ev.goto (tgt := 28) dX4_device_24 rfl ?_
        refine Ev.Si1 (I' := jX4_bit) ml_X4_134 dX4_device_28 cyX4_bit (by decide) ⟨by decide, by decide⟩ (by simp) rfl rfl (s_X4_bit (by omega)) (fun r σ' hr28 hq => ?_)
        obtain ⟨rfl, hq⟩ := hq
        replace hq := hq.symm
        subst hq
        refine Ev.int rfl dX4_device_31 ?_
        unfold q_device
        repeat (first | rw [if_pos (by omega)] | rw [if_neg (by omega)])
        all_goals rfl
  · skip
    refine Ev.iconst dX4_device_8 ⟨by decide, by decide⟩ ?_
    refine Ev.int rfl dX4_device_9 ?_
    unfold q_device
    repeat (first | rw [if_pos (by omega)] | rw [if_neg (by omega)])
    all_goals rfl
theorem s_X4_row {b d a i : Int} {σ : ev_M} (hX : XI b σ) (hb : b ≤ 600000000) : Ev jX4_row layX 0 [some (rv 0), some (iv d), some (iv a), some (iv i)] [] σ (fun r σ' => (r, σ') = q_row d a i σ) := by
  have h4 := hX.s4
  refine Ev.aload_n dX4_row_0 rfl ?_
  refine Ev.iload_n dX4_row_1 rfl ?_
  refine Ev.Vi1 (I' := jX4_isDevice) ml_X4_102 dX4_row_2 cyX4_isDevice lx_0 rfl (by decide) ⟨by decide, by decide⟩ (by simp) rfl rfl (s_X4_isDevice) (fun r σ' hr2 hq => ?_)
  obtain ⟨hq1, hq⟩ := hq
  replace hq := hq.symm
  subst hq
  refine Ev.if_eq (tgt := 21) dX4_row_5 rfl (fun c5 => ?_) (fun c5 => ?_)
  · skip
    refine Ev.iconst dX4_row_21 ⟨by decide, by decide⟩ ?_
    refine Ev.int rfl dX4_row_22 ?_
    unfold q_row
    repeat (first | rw [if_pos (by omega)] | rw [if_neg (by omega)])
    all_goals rfl
  · skip
    refine Ev.iload_n dX4_row_8 rfl ?_
    refine Ev.if_lt (tgt := 21) dX4_row_9 rfl (fun c9 => ?_) (fun c9 => ?_)
    · skip
      refine Ev.iconst dX4_row_21 ⟨by decide, by decide⟩ ?_
      refine Ev.int rfl dX4_row_22 ?_
      unfold q_row
      repeat (first | rw [if_pos (by omega)] | rw [if_neg (by omega)])
      all_goals rfl
    · skip
      refine Ev.iload_n dX4_row_12 rfl ?_
      refine Ev.iconst dX4_row_13 ⟨by decide, by decide⟩ ?_
      refine Ev.icmp_gt (tgt := 21) dX4_row_14 rfl (fun c14 => ?_) (fun c14 => ?_)
      · skip
        refine Ev.iconst dX4_row_21 ⟨by decide, by decide⟩ ?_
        refine Ev.int rfl dX4_row_22 ?_
        unfold q_row
        repeat (first | rw [if_pos (by omega)] | rw [if_neg (by omega)])
        all_goals rfl
      · skip
        refine Ev.iload_n dX4_row_17 rfl ?_
        refine Ev.if_ge (tgt := 23) dX4_row_18 rfl (fun c18 => ?_) (fun c18 => ?_)
        · skip
          refine Ev.iload_n dX4_row_23 rfl ?_
          refine Ev.if_ne (tgt := 43) dX4_row_24 rfl (fun c24 => ?_) (fun c24 => ?_)
          · skip
            refine Ev.aload_n dX4_row_43 rfl ?_
            refine Ev.getr (50) dX4_row_44 fl_X4_18 lx_0 (by decide) rfl rfl ?_
            refine Ev.iload_n dX4_row_47 rfl ?_
            refine Ev.aald dX4_row_48 lx_50 (by omega) (by omega) ?_
            refine Ev.getr (_ + 50) dX4_row_49 fl_X4_113 (lx_dev (by omega) (by omega)) (by decide) rfl rfl ?_
            refine Ev.iload_n dX4_row_52 rfl ?_
            have a51 := hX.d51 (i := d) (by omega) (by omega)
            refine Ev.Vi1 (I' := jX0_at) ml_X4_157 dX4_row_53 cyX0_at (lx_inn (by omega) (by omega)) rfl (by decide) ⟨by decide, by decide⟩ (by simp) rfl rfl (s_X0_at (lx_inn (by omega) (by omega)) (lx_ib (by omega) (by omega)) (by omega)) (fun r σ' hr53 hq => ?_)
            obtain ⟨rfl, hq⟩ := hq
            replace hq := hq.symm
            subst hq
            refine Ev.int rfl dX4_row_56 ?_
            unfold q_row
            repeat (first | rw [if_pos (by omega)] | rw [if_neg (by omega)])
            all_goals rfl
          · skip
            refine Ev.aload_n dX4_row_27 rfl ?_
            refine Ev.getr (50) dX4_row_28 fl_X4_18 lx_0 (by decide) rfl rfl ?_
            refine Ev.iload_n dX4_row_31 rfl ?_
            refine Ev.aald dX4_row_32 lx_50 (by omega) (by omega) ?_
            refine Ev.getr (_ + 20) dX4_row_33 fl_X4_106 (lx_dev (by omega) (by omega)) (by decide) rfl rfl ?_
            refine Ev.iload_n dX4_row_36 rfl ?_
            have a21 := hX.d21 (i := d) (by omega) (by omega)
            refine Ev.Vi1 (I' := jX0_at) ml_X4_157 dX4_row_37 cyX0_at (lx_out (by omega) (by omega)) rfl (by decide) ⟨by decide, by decide⟩ (by simp) rfl rfl (s_X0_at (lx_out (by omega) (by omega)) (lx_ob (by omega) (by omega)) (by omega)) (fun r σ' hr37 hq => ?_)
            obtain ⟨rfl, hq⟩ := hq
            replace hq := hq.symm
            subst hq
            refine Ev.goto (tgt := 56) dX4_row_40 rfl ?_
            refine Ev.int rfl dX4_row_56 ?_
            unfold q_row
            repeat (first | rw [if_pos (by omega)] | rw [if_neg (by omega)])
            all_goals rfl
        · skip
          refine Ev.iconst dX4_row_21 ⟨by decide, by decide⟩ ?_
          refine Ev.int rfl dX4_row_22 ?_
          unfold q_row
          repeat (first | rw [if_pos (by omega)] | rw [if_neg (by omega)])
          all_goals rfl
theorem s_X4_sum {b a : Int} {σ : ev_M} (hX : XI b σ) (hb : b ≤ 600000000) : Ev jX4_sum layX 0 [some (rv 0), some (iv a)] [] σ (fun r σ' => (r, σ') = q_sum a σ) := by
  have h4 := hX.s4
  refine Ev.iload_n dX4_sum_0 rfl ?_
  refine Ev.if_lt (tgt := 10) dX4_sum_1 rfl (fun c1 => ?_) (fun c1 => ?_)
  · skip
    refine Ev.iconst dX4_sum_10 ⟨by decide, by decide⟩ ?_
    refine Ev.int rfl dX4_sum_11 ?_
    unfold q_sum
    repeat (first | rw [if_pos (by omega)] | rw [if_neg (by omega)])
    all_goals rfl
  · skip
    refine Ev.iload_n dX4_sum_4 rfl ?_
    refine Ev.bipush dX4_sum_5 ⟨by decide, by decide⟩ (by decide) ?_
    refine Ev.icmp_lt (tgt := 12) dX4_sum_7 rfl (fun c7 => ?_) (fun c7 => ?_)
    · skip
      refine Ev.aload_n dX4_sum_12 rfl ?_
      refine Ev.getr (40) dX4_sum_13 fl_X4_30 lx_0 (by decide) rfl rfl ?_
      refine Ev.iload_n dX4_sum_16 rfl ?_
      refine Ev.iald dX4_sum_17 lx_40 (Or.inl rfl) (by omega) (by omega) ?_
      refine Ev.int rfl dX4_sum_18 ?_
      unfold q_sum
      repeat (first | rw [if_pos (by omega)] | rw [if_neg (by omega)])
      all_goals rfl
    · skip
      refine Ev.iconst dX4_sum_10 ⟨by decide, by decide⟩ ?_
      refine Ev.int rfl dX4_sum_11 ?_
      unfold q_sum
      repeat (first | rw [if_pos (by omega)] | rw [if_neg (by omega)])
      all_goals rfl
theorem s_X4_log {b i a : Int} {σ : ev_M} (hX : XI b σ) (hb : b ≤ 600000000) : Ev jX4_log layX 0 [some (rv 0), some (iv i), some (iv a)] [] σ (fun r σ' => (r, σ') = q_log i a σ) := by
  have h4 := hX.s4
  have a34 := hX.s34
  have a33 := hX.s33
  refine Ev.iload_n dX4_log_0 rfl ?_
  refine Ev.iconst dX4_log_1 ⟨by decide, by decide⟩ ?_
  refine Ev.icmp_lt (tgt := 14) dX4_log_2 rfl (fun c2 => ?_) (fun c2 => ?_)
  · skip
    refine Ev.iconst dX4_log_14 ⟨by decide, by decide⟩ ?_
    refine Ev.int rfl dX4_log_15 ?_
    unfold q_log
    repeat (first | rw [if_pos (by omega)] | rw [if_neg (by omega)])
    all_goals rfl
  · skip
    refine Ev.iload_n dX4_log_5 rfl ?_
    refine Ev.if_lt (tgt := 14) dX4_log_6 rfl (fun c6 => ?_) (fun c6 => ?_)
    · skip
      refine Ev.iconst dX4_log_14 ⟨by decide, by decide⟩ ?_
      refine Ev.int rfl dX4_log_15 ?_
      unfold q_log
      repeat (first | rw [if_pos (by omega)] | rw [if_neg (by omega)])
      all_goals rfl
    · skip
      refine Ev.iload_n dX4_log_9 rfl ?_
      refine Ev.iconst dX4_log_10 ⟨by decide, by decide⟩ ?_
      refine Ev.icmp_le (tgt := 16) dX4_log_11 rfl (fun c11 => ?_) (fun c11 => ?_)
      · skip
        refine Ev.iload_n dX4_log_16 rfl ?_
        refine Ev.iconst dX4_log_17 ⟨by decide, by decide⟩ ?_
        refine Ev.icmp_ne (tgt := 31) dX4_log_18 rfl (fun c18 => ?_) (fun c18 => ?_)
        · skip
          refine Ev.aload_n dX4_log_31 rfl ?_
          refine Ev.getr (30) dX4_log_32 fl_X4_26 lx_0 (by decide) rfl rfl ?_
          refine Ev.iload_n dX4_log_35 rfl ?_
          refine Ev.iload_n dX4_log_36 rfl ?_
          refine Ev.Vi2 (I' := jX1_tell) ml_X4_175 dX4_log_37 cyX1_tell lx_30 rfl (by decide) ⟨by decide, by decide⟩ (by simp) rfl rfl (s_X1_tell (by omega) (by omega) (by omega) (by omega)) (fun r σ' hr37 hq => ?_)
          obtain ⟨rfl, hq⟩ := hq
          replace hq := hq.symm
          subst hq
          refine Ev.int rfl dX4_log_40 ?_
          unfold q_log
          repeat (first | rw [if_pos (by omega)] | rw [if_neg (by omega)])
          all_goals rfl
        · skip
          refine Ev.aload_n dX4_log_21 rfl ?_
          refine Ev.getr (30) dX4_log_22 fl_X4_26 lx_0 (by decide) rfl rfl ?_
          refine Ev.geti (33) dX4_log_25 fl_X4_172 lx_30 (by decide) rfl rfl ?_
          refine Ev.goto (tgt := 40) dX4_log_28 rfl ?_
          refine Ev.int rfl dX4_log_40 ?_
          unfold q_log
          repeat (first | rw [if_pos (by omega)] | rw [if_neg (by omega)])
          all_goals rfl
      · skip
        refine Ev.iconst dX4_log_14 ⟨by decide, by decide⟩ ?_
        refine Ev.int rfl dX4_log_15 ?_
        unfold q_log
        repeat (first | rw [if_pos (by omega)] | rw [if_neg (by omega)])
        all_goals rfl
theorem s_X4_tick {b n : Int} {σ : ev_M} (hX : XI b σ) (hb : b ≤ 600000000) : Ev jX4_tick layX 0 [some (rv 0), some (iv n)] [] σ (fun r σ' => (r, σ') = q_tick n σ) := by
  have h4 := hX.s4
  refine Ev.iload_n dX4_tick_0 rfl ?_
  refine Ev.iconst dX4_tick_1 ⟨by decide, by decide⟩ ?_
  refine Ev.icmp_lt (tgt := 12) dX4_tick_2 rfl (fun c2 => ?_) (fun c2 => ?_)
  · skip
    refine Ev.iconst dX4_tick_12 ⟨by decide, by decide⟩ ?_
    refine Ev.int rfl dX4_tick_13 ?_
    unfold q_tick
    repeat (first | rw [if_pos (by omega)] | rw [if_neg (by omega)])
    all_goals rfl
  · skip
    refine Ev.iload_n dX4_tick_5 rfl ?_
    refine Ev.sipush dX4_tick_6 ⟨by decide, by decide⟩ (by decide) ?_
    refine Ev.icmp_le (tgt := 14) dX4_tick_9 rfl (fun c9 => ?_) (fun c9 => ?_)
    · skip
      refine Ev.aload_n dX4_tick_14 rfl ?_
      refine Ev.iload_n dX4_tick_15 rfl ?_
      refine Ev.Vv1 (I' := jX4_passTicks) ml_X4_76 dX4_tick_16 cyX4_passTicks lx_0 rfl (by decide) ⟨by decide, by decide⟩ (by simp) rfl rfl (s_X4_passTicks (by omega) (by omega) hX (by omega)) (fun σ' hq => ?_)
      subst hq
      refine Ev.aload_n dX4_tick_19 rfl ?_
      refine Ev.geti (5) dX4_tick_20 fl_X4_70 lx_0 (by decide) rfl rfl ?_
      refine Ev.int rfl dX4_tick_23 ?_
      unfold q_tick
      repeat (first | rw [if_pos (by omega)] | rw [if_neg (by omega)])
      all_goals rfl
    · skip
      refine Ev.iconst dX4_tick_12 ⟨by decide, by decide⟩ ?_
      refine Ev.int rfl dX4_tick_13 ?_
      unfold q_tick
      repeat (first | rw [if_pos (by omega)] | rw [if_neg (by omega)])
      all_goals rfl
theorem s_X4_command {b c : Int} {σ : ev_M} (hX : XI b σ) (hb : b ≤ 600000000) : Ev jX4_command layX 0 [some (rv 0), some (iv c)] [] σ (fun r σ' => (r, σ') = q_command c σ) := by
  have h4 := hX.s4
  refine Ev.iload_n dX4_command_0 rfl ?_
  refine Ev.if_lt (tgt := 10) dX4_command_1 rfl (fun c1 => ?_) (fun c1 => ?_)
  · skip
    refine Ev.iconst dX4_command_10 ⟨by decide, by decide⟩ ?_
    refine Ev.int rfl dX4_command_11 ?_
    unfold q_command
    repeat (first | rw [if_pos (by omega)] | rw [if_neg (by omega)])
    all_goals rfl
  · skip
    refine Ev.iload_n dX4_command_4 rfl ?_
    refine Ev.bipush dX4_command_5 ⟨by decide, by decide⟩ (by decide) ?_
    refine Ev.icmp_le (tgt := 12) dX4_command_7 rfl (fun c7 => ?_) (fun c7 => ?_)
    · skip
      refine Ev.aload_n dX4_command_12 rfl ?_
      refine Ev.iload_n dX4_command_13 rfl ?_
      refine Ev.Vv1 (I' := jX4_send) ml_X4_66 dX4_command_14 cyX4_send lx_0 rfl (by decide) ⟨by decide, by decide⟩ (by simp) rfl rfl (s_X4_send hX (by omega) (by omega) (by omega)) (fun σ' hq => ?_)
      subst hq
      refine Ev.aload_n dX4_command_17 rfl ?_
      refine Ev.geti (5) dX4_command_18 fl_X4_70 lx_0 (by decide) rfl rfl ?_
      refine Ev.int rfl dX4_command_21 ?_
      unfold q_command
      repeat (first | rw [if_pos (by omega)] | rw [if_neg (by omega)])
      all_goals rfl
    · skip
      refine Ev.iconst dX4_command_10 ⟨by decide, by decide⟩ ?_
      refine Ev.int rfl dX4_command_11 ?_
      unfold q_command
      repeat (first | rw [if_pos (by omega)] | rw [if_neg (by omega)])
      all_goals rfl
theorem ltr_0 : ∀ a : Fin 127, ((Int32.ofInt ((a : Nat) : Int)).toUInt32 % 65536).toInt32 = Int32.ofInt ((a : Nat) : Int) ∧ vp_nar .char (Int32.ofInt ((a : Nat) : Int)) = Int32.ofInt ((a : Nat) : Int) ∧ narrow .char (.int (Int32.ofInt ((a : Nat) : Int))) = .int (Int32.ofInt ((a : Nat) : Int)) := by decide +kernel
theorem ltr {a : Int} (h0 : 0 ≤ a) (h1 : a ≤ 126) : ((Int32.ofInt a).toUInt32 % 65536).toInt32 = Int32.ofInt a ∧ vp_nar .char (Int32.ofInt a) = Int32.ofInt a ∧ narrow .char (.int (Int32.ofInt a)) = .int (Int32.ofInt a) := by
  have := ltr_0 ⟨a.toNat, by omega⟩
  simp only at this
  rwa [show ((a.toNat : Nat) : Int) = a by omega] at this
def x_wr (a : Int) (σ : ev_M) : Int × ev_M := if 200 ≤ σ 22 then (-3, σ) else (σ 22 + 1, ev_up (ev_up σ (200 + σ 22) a) 22 (σ 22 + 1))
theorem s_X3_append {a : Int} {σ : ev_M} (h0 : 0 ≤ σ 22) (h1 : σ 22 ≤ 200) (a0 : 0 ≤ a) (a1 : a ≤ 126) : Ev jX3_append layX 0 [some (rv 20), some (iv a)] [] σ (fun r σ' => (r, σ') = x_wr a σ) := by
  have hl := ltr a0 a1
  refine Ev.aload_n dX3_append_0 rfl ?_
  refine Ev.geti (22) dX3_append_1 fl_X3_19 lx_20 (by decide) rfl rfl ?_
  refine Ev.sipush dX3_append_4 ⟨by decide, by decide⟩ (by decide) ?_
  refine Ev.icmp_lt (tgt := 13) dX3_append_7 rfl (fun c7 => ?_) (fun c7 => ?_)
  · skip
    refine Ev.aload_n dX3_append_13 rfl ?_
    refine Ev.getr (200) dX3_append_14 fl_X3_9 lx_20 (by decide) rfl rfl ?_
    refine Ev.aload_n dX3_append_17 rfl ?_
    refine Ev.geti (22) dX3_append_18 fl_X3_19 lx_20 (by decide) rfl rfl ?_
    refine Ev.iload_n dX3_append_21 rfl ?_
    refine Ev.i2c dX3_append_22 (by omega) (by omega) hl.1 ?_
    refine Ev.cast dX3_append_23 lx_200 (by omega) (by omega) hl.2.1 ?_
    refine Ev.aload_n dX3_append_24 rfl ?_
    refine Ev.dup dX3_append_25 ?_
    refine Ev.geti (22) dX3_append_26 fl_X3_19 lx_20 (by decide) rfl rfl ?_
    try simp (disch := omega) only [ev_up_ne, ev_up_eqs]
    refine Ev.iconst dX3_append_29 ⟨by decide, by decide⟩ ?_
    refine Ev.iadd dX3_append_30 (by unfold ev_in; omega) ?_
    refine Ev.puti (22) dX3_append_31 fl_X3_19 ft_3_2 lx_20 (by decide) rfl rfl ?_
    refine Ev.aload_n dX3_append_34 rfl ?_
    refine Ev.geti (22) dX3_append_35 fl_X3_19 lx_20 (by decide) rfl rfl ?_
    try simp (disch := omega) only [ev_up_ne, ev_up_eqs]
    refine Ev.int rfl dX3_append_38 ?_
    unfold x_wr
    first | rw [if_pos (by omega)] | rw [if_neg (by omega)]
  · skip
    refine Ev.bipush dX3_append_10 ⟨by decide, by decide⟩ (by decide) ?_
    refine Ev.int rfl dX3_append_12 ?_
    unfold x_wr
    first | rw [if_pos (by omega)] | rw [if_neg (by omega)]
theorem s_X3_empty {σ : ev_M} : Ev jX3_empty layX 0 [some (rv 20), none] [] σ (fun r σ' => r = σ 22 ∧ σ' = ev_up σ 22 0) := by
  refine Ev.aload_n dX3_empty_0 rfl ?_
  refine Ev.geti (22) dX3_empty_1 fl_X3_19 lx_20 (by decide) rfl rfl ?_
  refine Ev.istore1 rfl dX3_empty_4 ?_
  refine Ev.aload_n dX3_empty_5 rfl ?_
  refine Ev.iconst dX3_empty_6 ⟨by decide, by decide⟩ ?_
  refine Ev.puti (22) dX3_empty_7 fl_X3_19 ft_3_2 lx_20 (by decide) rfl rfl ?_
  refine Ev.iload_n dX3_empty_10 rfl ?_
  refine Ev.int rfl dX3_empty_11 ?_
  exact ⟨rfl, rfl⟩
theorem s_X4_write {b a : Int} {σ : ev_M} (hX : XI b σ) (hb : b ≤ 600000000) : Ev jX4_write layX 0 [some (rv 0), some (iv a)] [] σ (fun r σ' => (r, σ') = q_write a σ) := by
  have h4 := hX.s4
  have h22 := hX.s22
  refine Ev.iload_n dX4_write_0 rfl ?_
  refine Ev.bipush dX4_write_1 ⟨by decide, by decide⟩ (by decide) ?_
  refine Ev.icmp_lt (tgt := 12) dX4_write_3 rfl (fun c3 => ?_) (fun c3 => ?_)
  · skip
    refine Ev.iconst dX4_write_12 ⟨by decide, by decide⟩ ?_
    refine Ev.int rfl dX4_write_13 ?_
    unfold q_write
    repeat (first | rw [if_pos (by omega)] | rw [if_neg (by omega)])
    all_goals rfl
  · skip
    refine Ev.iload_n dX4_write_6 rfl ?_
    refine Ev.bipush dX4_write_7 ⟨by decide, by decide⟩ (by decide) ?_
    refine Ev.icmp_le (tgt := 14) dX4_write_9 rfl (fun c9 => ?_) (fun c9 => ?_)
    · skip
      refine Ev.aload_n dX4_write_14 rfl ?_
      refine Ev.getr (20) dX4_write_15 fl_X4_10 lx_0 (by decide) rfl rfl ?_
      refine Ev.iload_n dX4_write_18 rfl ?_
      refine Ev.Vi1 (I' := jX3_append) ml_X4_41 dX4_write_19 cyX3_append lx_20 rfl (by decide) ⟨by decide, by decide⟩ (by simp) rfl rfl (s_X3_append (by omega) (by omega) (by omega) (by omega)) (fun r σ' hr19 hq => ?_)
      skip
      refine Ev.int rfl dX4_write_22 ?_
      unfold q_write
      rw [if_neg (by omega)]
      exact hq
    · skip
      refine Ev.iconst dX4_write_12 ⟨by decide, by decide⟩ ?_
      refine Ev.int rfl dX4_write_13 ?_
      unfold q_write
      repeat (first | rw [if_pos (by omega)] | rw [if_neg (by omega)])
      all_goals rfl
theorem s_X4_wipe {σ : ev_M} : Ev jX4_wipe layX 0 [some (rv 0)] [] σ (fun r σ' => (r, σ') = q_wipe σ) := by
  refine Ev.aload_n dX4_wipe_0 rfl ?_
  refine Ev.getr (20) dX4_wipe_1 fl_X4_10 lx_0 (by decide) rfl rfl ?_
  refine Ev.Vi0 (I' := jX3_empty) ml_X4_45 dX4_wipe_4 cyX3_empty lx_20 rfl (by decide) ⟨by decide, by decide⟩ (by simp) rfl rfl (s_X3_empty) (fun r σ' hr4 hq => ?_)
  obtain ⟨rfl, rfl⟩ := hq
  refine Ev.int rfl dX4_wipe_7 ?_
  rfl
theorem it_el_o {n : Int} {σ : ev_M} {k : Nat} (hk : k ≤ 6) (hn : n < 1000) : it x_el σ k n = σ n := it_at' k (fun i σ hi => x_el_o (by omega) (by omega) hn)
theorem it_enp_o {n : Int} {σ : ev_M} {k : Nat} (hk : k ≤ 6) (hn : n < 1000) : it x_enp σ k n = σ n := it_at' k (fun i σ hi => x_enp_o (by omega) (by omega) hn)
theorem s_X4_takeBack {b : Int} {σ : ev_M} (hX : XI b σ) : Ev jX4_takeBack layX 0 [some (rv 0), none] [] σ (fun r σ' => (r, σ') = q_takeBack σ) := by
  have h4 := hX.s4
  have e4 : ev_up σ 7 (-4) 4 = σ 4 := ev_up_ne (by decide)
  refine Ev.aload_n dX4_takeBack_0 rfl ?_
  refine Ev.geti (6) dX4_takeBack_1 fl_X4_79 lx_0 (by decide) rfl rfl ?_
  refine Ev.istore1 rfl dX4_takeBack_4 ?_
  refine Ev.aload_n dX4_takeBack_5 rfl ?_
  refine Ev.bipush dX4_takeBack_6 ⟨by decide, by decide⟩ (by decide) ?_
  refine Ev.puti (7) dX4_takeBack_8 fl_X4_89 ft_4_7 lx_0 (by decide) rfl rfl ?_
  refine Ev.aload_n dX4_takeBack_11 rfl ?_
  refine Ev.Vv0 (I' := jX4_endListening) ml_X4_92 dX4_takeBack_12 cyX4_endListening lx_0 rfl (by decide) ⟨by decide, by decide⟩ (by simp) rfl rfl (s_X4_endListening (by omega) (by omega)) (fun σ' hq => ?_)
  subst hq
  rw [e4]
  refine Ev.aload_n dX4_takeBack_15 rfl ?_
  refine Ev.Vv0 (I' := jX4_endNamedAndPrepared) ml_X4_95 dX4_takeBack_16 cyX4_endNamedAndPrepared lx_0 rfl (by decide) ⟨by decide, by decide⟩ (by simp) rfl rfl (s_X4_endNamedAndPrepared (by rw [it_el_o (by omega) (by decide)]; omega) (by rw [it_el_o (by omega) (by decide)]; omega)) (fun σ' hq => ?_)
  subst hq
  rw [it_el_o (by omega) (by decide), e4]
  refine Ev.aload_n dX4_takeBack_19 rfl ?_
  refine Ev.iconst dX4_takeBack_20 ⟨by decide, by decide⟩ ?_
  refine Ev.putz (9) dX4_takeBack_21 fl_X4_98 ft_4_9 lx_0 (by decide) rfl rfl (by omega) ?_
  refine Ev.aload_n dX4_takeBack_24 rfl ?_
  refine Ev.iconst dX4_takeBack_25 ⟨by decide, by decide⟩ ?_
  refine Ev.puti (6) dX4_takeBack_26 fl_X4_79 ft_4_6 lx_0 (by decide) rfl rfl ?_
  refine Ev.iload_n dX4_takeBack_29 rfl ?_
  refine Ev.int rfl dX4_takeBack_30 ?_
  rfl
def xpa (σ : ev_M) : Nat → Int
  | 0 => 0
  | k + 1 => ev_or (xpa σ k) (x_lb (k : Int) σ)
def q_parallel (σ : ev_M) : Int × ev_M := (xpa (x_pass 1 σ) (σ 4).toNat, x_pass 1 σ)
theorem s_X4_parallel {b : Int} {σ : ev_M} (hX : XI b σ) (hb : b ≤ 900000000) : Ev jX4_parallel layX 0 [some (rv 0), none, none] [] σ (fun r σ' => (r, σ') = q_parallel σ) := by
  have h4 := hX.s4
  have hP := hX.pass (n := 1) (by decide)
  have e4 : x_pass 1 σ 4 = σ 4 := x_pass_o hX (by decide) (by decide) (by decide)
  have loop : ∀ (j k : Nat), (k : Int) + j = σ 4 → Ev jX4_parallel layX 9 [some (rv 0), some (iv (xpa (x_pass 1 σ) k)), some (iv (k : Int))] [] (x_pass 1 σ) (fun r σ' => (r, σ') = q_parallel σ) := by
    intro j
    induction j with
    | zero =>
      intro k hk
      refine Ev.iload_n dX4_parallel_9 rfl ?_
      refine Ev.aload_n dX4_parallel_10 rfl ?_
      refine Ev.geti (4) dX4_parallel_11 fl_X4_63 lx_0 (by decide) rfl rfl ?_
      refine Ev.icmp_ge (tgt := 35) dX4_parallel_14 rfl (fun c14 => ?_) (fun c14 => ?_)
      · skip
        refine Ev.iload_n dX4_parallel_35 rfl ?_
        refine Ev.int rfl dX4_parallel_36 ?_
        unfold q_parallel
        rw [show (σ 4).toNat = k by omega]
      · skip
        exact absurd c14 (by omega)
    | succ j ih =>
      intro k hk
      have a8 := hP.d8 (i := (k : Int)) (by omega) (by omega)
      refine Ev.iload_n dX4_parallel_9 rfl ?_
      refine Ev.aload_n dX4_parallel_10 rfl ?_
      refine Ev.geti (4) dX4_parallel_11 fl_X4_63 lx_0 (by decide) rfl rfl ?_
      refine Ev.icmp_ge (tgt := 35) dX4_parallel_14 rfl (fun c14 => ?_) (fun c14 => ?_)
      · skip
        exact absurd c14 (by omega)
      · skip
        refine Ev.iload_n dX4_parallel_17 rfl ?_
        refine Ev.aload_n dX4_parallel_18 rfl ?_
        refine Ev.getr (50) dX4_parallel_19 fl_X4_18 lx_0 (by decide) rfl rfl ?_
        refine Ev.iload_n dX4_parallel_22 rfl ?_
        refine Ev.aald dX4_parallel_23 lx_50 (by omega) (by omega) ?_
        refine Ev.Vi0 (I' := jX2_lineBit) ml_X4_86 dX4_parallel_24 cyX2_lineBit (lx_dev (by omega) (by omega)) rfl (by decide) ⟨by decide, by decide⟩ (by simp) rfl rfl (s_X2_lineBit (by omega) (by omega) (by omega)) (fun r σ' hr24 hq => ?_)
        obtain ⟨rfl, hq⟩ := hq
        replace hq := hq.symm
        subst hq
        refine Ev.ior dX4_parallel_27 ?_
        refine Ev.istore1 rfl dX4_parallel_28 ?_
        refine Ev.iinc2 dX4_parallel_29 (by unfold ev_in; omega) ?_
        refine Ev.goto (tgt := 9) dX4_parallel_32 rfl ?_
        exact ih (k + 1) (by omega)
  refine Ev.aload_n dX4_parallel_0 rfl ?_
  refine Ev.iconst dX4_parallel_1 ⟨by decide, by decide⟩ ?_
  refine Ev.Vv1 (I' := jX4_passTicks) ml_X4_76 dX4_parallel_2 cyX4_passTicks lx_0 rfl (by decide) ⟨by decide, by decide⟩ (by simp) rfl rfl (s_X4_passTicks (by decide) (by decide) hX hb) (fun σ' hq => ?_)
  subst hq
  refine Ev.iconst dX4_parallel_5 ⟨by decide, by decide⟩ ?_
  refine Ev.istore1 rfl dX4_parallel_6 ?_
  refine Ev.iconst dX4_parallel_7 ⟨by decide, by decide⟩ ?_
  refine Ev.istore2 rfl dX4_parallel_8 ?_
  exact loop (σ 4).toNat 0 (by omega)
def BusP (a : Int) (σ : ev_M) (r : Int) : Prop := if a = 0 then r = σ 7 else if a = 1 then r = x_lbs σ else if a = 2 then r = σ 6 else if a = 3 then r = σ 9 else if a = 4 then r = σ 5 else if a = 5 then ((r = 1 ∧ ∃ i : Nat, (i : Int) < σ 4 ∧ σ (1000 + 100 * (i : Int) + 8) ≠ 0) ∨ (r = 0 ∧ ∀ i : Nat, (i : Int) < σ 4 → σ (1000 + 100 * (i : Int) + 8) = 0)) else if a = 6 then r = x_tnb σ else if a = 7 then r = σ 4 else if a = 8 then r = σ 22 else r = -1
theorem s_X4_bus {b a : Int} {σ : ev_M} (hX : XI b σ) : Ev jX4_bus layX 0 [some (rv 0), some (iv a)] [] σ (fun r σ' => BusP a σ r ∧ σ' = σ) := by
  have h4 := hX.s4
  have h9 := hX.s9
  refine Ev.iload_n dX4_bus_0 rfl ?_
  by_cases hs : 0 ≤ a ∧ a ≤ 8
  · rcases (show a = 0 ∨ a = 1 ∨ a = 2 ∨ a = 3 ∨ a = 4 ∨ a = 5 ∨ a = 6 ∨ a = 7 ∨ a = 8 by omega) with rfl | rfl | rfl | rfl | rfl | rfl | rfl | rfl | rfl
    · refine Ev.tabIn (tgt := 52) dX4_bus_1 (by decide) (by decide) rfl rfl ?_
      refine Ev.aload_n dX4_bus_52 rfl ?_
      refine Ev.geti (7) dX4_bus_53 fl_X4_89 lx_0 (by decide) rfl rfl ?_
      refine Ev.int rfl dX4_bus_56 ?_
      exact ⟨rfl, rfl⟩
    · refine Ev.tabIn (tgt := 57) dX4_bus_1 (by decide) (by decide) rfl rfl ?_
      refine Ev.aload_n dX4_bus_57 rfl ?_
      refine Ev.Vi0 (I' := jX4_listenerBits) ml_X4_160 dX4_bus_58 cyX4_listenerBits lx_0 rfl (by decide) ⟨by decide, by decide⟩ (by simp) rfl rfl (s_X4_listenerBits (by omega) (by omega)) (fun r σ' hr58 hq => ?_)
      obtain ⟨rfl, hq⟩ := hq
      replace hq := hq.symm
      subst hq
      refine Ev.int rfl dX4_bus_61 ?_
      exact ⟨rfl, rfl⟩
    · refine Ev.tabIn (tgt := 62) dX4_bus_1 (by decide) (by decide) rfl rfl ?_
      refine Ev.aload_n dX4_bus_62 rfl ?_
      refine Ev.geti (6) dX4_bus_63 fl_X4_79 lx_0 (by decide) rfl rfl ?_
      refine Ev.int rfl dX4_bus_66 ?_
      exact ⟨rfl, rfl⟩
    · refine Ev.tabIn (tgt := 67) dX4_bus_1 (by decide) (by decide) rfl rfl ?_
      refine Ev.aload_n dX4_bus_67 rfl ?_
      refine Ev.geti (9) dX4_bus_68 fl_X4_98 lx_0 (by decide) rfl rfl ?_
      refine Ev.Si1 (I' := jX4_bit) ml_X4_134 dX4_bus_71 cyX4_bit (by decide) ⟨by decide, by decide⟩ (by simp) rfl rfl (s_X4_bit (by omega)) (fun r σ' hr71 hq => ?_)
      obtain ⟨rfl, hq⟩ := hq
      replace hq := hq.symm
      subst hq
      refine Ev.int rfl dX4_bus_74 ?_
      exact ⟨rfl, rfl⟩
    · refine Ev.tabIn (tgt := 75) dX4_bus_1 (by decide) (by decide) rfl rfl ?_
      refine Ev.aload_n dX4_bus_75 rfl ?_
      refine Ev.geti (5) dX4_bus_76 fl_X4_70 lx_0 (by decide) rfl rfl ?_
      refine Ev.int rfl dX4_bus_79 ?_
      exact ⟨rfl, rfl⟩
    · refine Ev.tabIn (tgt := 80) dX4_bus_1 (by decide) (by decide) rfl rfl ?_
      refine Ev.aload_n dX4_bus_80 rfl ?_
      refine Ev.Vi0 (I' := jX4_someoneAsks) ml_X4_163 dX4_bus_81 cyX4_someoneAsks lx_0 rfl (by decide) ⟨by decide, by decide⟩ (by simp) rfl rfl (s_X4_someoneAsks (by omega) (by omega)) (fun r σ' hr81 hq => ?_)
      obtain ⟨hq1, hq⟩ := hq
      replace hq := hq.symm
      subst hq
      refine Ev.Si1 (I' := jX4_bit) ml_X4_134 dX4_bus_84 cyX4_bit (by decide) ⟨by decide, by decide⟩ (by simp) rfl rfl (s_X4_bit (by rcases hq1 with z | z <;> omega)) (fun r σ' hr84 hq => ?_)
      obtain ⟨rfl, hq⟩ := hq
      replace hq := hq.symm
      subst hq
      refine Ev.int rfl dX4_bus_87 ?_
      exact ⟨hq1, rfl⟩
    · refine Ev.tabIn (tgt := 88) dX4_bus_1 (by decide) (by decide) rfl rfl ?_
      refine Ev.aload_n dX4_bus_88 rfl ?_
      refine Ev.Vi0 (I' := jX4_ticksOfNextByte) ml_X4_166 dX4_bus_89 cyX4_ticksOfNextByte lx_0 rfl (by decide) ⟨by decide, by decide⟩ (by simp) rfl rfl (s_X4_ticksOfNextByte hX) (fun r σ' hr89 hq => ?_)
      obtain ⟨rfl, hq⟩ := hq
      replace hq := hq.symm
      subst hq
      refine Ev.int rfl dX4_bus_92 ?_
      exact ⟨rfl, rfl⟩
    · refine Ev.tabIn (tgt := 93) dX4_bus_1 (by decide) (by decide) rfl rfl ?_
      refine Ev.aload_n dX4_bus_93 rfl ?_
      refine Ev.geti (4) dX4_bus_94 fl_X4_63 lx_0 (by decide) rfl rfl ?_
      refine Ev.int rfl dX4_bus_97 ?_
      exact ⟨rfl, rfl⟩
    · refine Ev.tabIn (tgt := 98) dX4_bus_1 (by decide) (by decide) rfl rfl ?_
      refine Ev.aload_n dX4_bus_98 rfl ?_
      refine Ev.getr (20) dX4_bus_99 fl_X4_10 lx_0 (by decide) rfl rfl ?_
      refine Ev.geti (22) dX4_bus_102 fl_X4_169 lx_20 (by decide) rfl rfl ?_
      refine Ev.int rfl dX4_bus_105 ?_
      exact ⟨rfl, rfl⟩
  · refine Ev.tabOut (tgt := 106) dX4_bus_1 (by omega) rfl ?_
    refine Ev.iconst dX4_bus_106 ⟨by decide, by decide⟩ ?_
    refine Ev.int rfl dX4_bus_107 ?_
    refine ⟨?_, rfl⟩
    unfold BusP
    repeat (first | rw [if_pos (by omega)] | rw [if_neg (by omega)])
    all_goals rfl
