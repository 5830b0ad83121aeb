/-! the class: loops over devices -/
def x_el (i : Int) (σ : ev_M) : ev_M := ev_up σ (1000 + 100 * i + 9) 0
theorem x_el_o {i n : Int} {σ : ev_M} (h0 : 0 ≤ i) (h1 : i < 6) (hn : n < 1000) : x_el i σ n = σ n := ev_up_ne (by omega)
theorem s_X4_endListening  {σ : ev_M}  (h4 : 0 ≤ σ 4) (h4' : σ 4 ≤ 6) : Ev jX4_endListening layX 0 [some (rv 0), none] [] σ (fun _ σ' => σ' = it x_el σ (σ 4).toNat) := by
  have loop : ∀ (j k : Nat) (ρ : ev_M), (k : Int) + j = σ 4 → ρ = it x_el σ k → Ev jX4_endListening layX 2 [some (rv 0), some (iv (k : Int))] [] ρ (fun _ σ' => σ' = it x_el σ (σ 4).toNat) := by
    intro j
    induction j with
    | zero =>
      intro k ρ hk hρ
      have e4 : ρ 4 = σ 4 := by rw [hρ]; exact it_at' k (fun i σ hi => x_el_o (by omega) (by omega) (by decide))
      refine Ev.iload_n dX4_endListening_2 rfl ?_
      refine Ev.aload_n dX4_endListening_3 rfl ?_
      refine Ev.geti (4) dX4_endListening_4 fl_X4_63 lx_0 (by decide) rfl rfl ?_
      refine Ev.icmp_ge (tgt := 26) dX4_endListening_7 rfl (fun c7 => ?_) (fun c7 => ?_)
      · skip
        refine Ev.vret dX4_endListening_26 rfl ?_
        rw [hρ, show (σ 4).toNat = k by omega]
      · skip
        exact absurd c7 (by omega)
    | succ j ih =>
      intro k ρ hk hρ
      have e4 : ρ 4 = σ 4 := by rw [hρ]; exact it_at' k (fun i σ hi => x_el_o (by omega) (by omega) (by decide))
      refine Ev.iload_n dX4_endListening_2 rfl ?_
      refine Ev.aload_n dX4_endListening_3 rfl ?_
      refine Ev.geti (4) dX4_endListening_4 fl_X4_63 lx_0 (by decide) rfl rfl ?_
      refine Ev.icmp_ge (tgt := 26) dX4_endListening_7 rfl (fun c7 => ?_) (fun c7 => ?_)
      · skip
        exact absurd c7 (by omega)
      · skip
        refine Ev.aload_n dX4_endListening_10 rfl ?_
        refine Ev.getr (50) dX4_endListening_11 fl_X4_18 lx_0 (by decide) rfl rfl ?_
        refine Ev.iload_n dX4_endListening_14 rfl ?_
        refine Ev.aald dX4_endListening_15 lx_50 (by omega) (by omega) ?_
        refine Ev.iconst dX4_endListening_16 ⟨by decide, by decide⟩ ?_
        refine Ev.putz (_ + 9) dX4_endListening_17 fl_X4_229 ft_2_9 (lx_dev (by omega) (by omega)) (by decide) rfl rfl (by omega) ?_
        refine Ev.iinc1 dX4_endListening_20 (by unfold ev_in; omega) ?_
        refine Ev.goto (tgt := 2) dX4_endListening_23 rfl ?_
        refine ih (k + 1) _ (by omega) ?_
        rw [show it x_el σ (k + 1) = x_el (k : Int) (it x_el σ k) from rfl, ← hρ]
        unfold x_el
        first | (exfalso; omega) | rfl | (repeat (first | rw [if_pos (by omega)] | rw [if_neg (by omega)]))
  refine Ev.iconst dX4_endListening_0 ⟨by decide, by decide⟩ ?_
  refine Ev.istore1 rfl dX4_endListening_1 ?_
  exact loop (σ 4).toNat 0 _ (by omega) rfl
def x_enp (i : Int) (σ : ev_M) : ev_M := ev_up (ev_up σ (1000 + 100 * i + 13) 0) (1000 + 100 * i + 12) 0
theorem x_enp_o {i n : Int} {σ : ev_M} (h0 : 0 ≤ i) (h1 : i < 6) (hn : n < 1000) : x_enp i σ n = σ n := by unfold x_enp; rw [ev_up_ne (by omega), ev_up_ne (by omega)]
theorem s_X4_endNamedAndPrepared  {σ : ev_M}  (h4 : 0 ≤ σ 4) (h4' : σ 4 ≤ 6) : Ev jX4_endNamedAndPrepared layX 0 [some (rv 0), none] [] σ (fun _ σ' => σ' = it x_enp σ (σ 4).toNat) := by
  have loop : ∀ (j k : Nat) (ρ : ev_M), (k : Int) + j = σ 4 → ρ = it x_enp σ k → Ev jX4_endNamedAndPrepared layX 2 [some (rv 0), some (iv (k : Int))] [] ρ (fun _ σ' => σ' = it x_enp σ (σ 4).toNat) := by
    intro j
    induction j with
    | zero =>
      intro k ρ hk hρ
      have e4 : ρ 4 = σ 4 := by rw [hρ]; exact it_at' k (fun i σ hi => x_enp_o (by omega) (by omega) (by decide))
      refine Ev.iload_n dX4_endNamedAndPrepared_2 rfl ?_
      refine Ev.aload_n dX4_endNamedAndPrepared_3 rfl ?_
      refine Ev.geti (4) dX4_endNamedAndPrepared_4 fl_X4_63 lx_0 (by decide) rfl rfl ?_
      refine Ev.icmp_ge (tgt := 36) dX4_endNamedAndPrepared_7 rfl (fun c7 => ?_) (fun c7 => ?_)
      · skip
        refine Ev.vret dX4_endNamedAndPrepared_36 rfl ?_
        rw [hρ, show (σ 4).toNat = k by omega]
      · skip
        exact absurd c7 (by omega)
    | succ j ih =>
      intro k ρ hk hρ
      have e4 : ρ 4 = σ 4 := by rw [hρ]; exact it_at' k (fun i σ hi => x_enp_o (by omega) (by omega) (by decide))
      refine Ev.iload_n dX4_endNamedAndPrepared_2 rfl ?_
      refine Ev.aload_n dX4_endNamedAndPrepared_3 rfl ?_
      refine Ev.geti (4) dX4_endNamedAndPrepared_4 fl_X4_63 lx_0 (by decide) rfl rfl ?_
      refine Ev.icmp_ge (tgt := 36) dX4_endNamedAndPrepared_7 rfl (fun c7 => ?_) (fun c7 => ?_)
      · skip
        exact absurd c7 (by omega)
      · skip
        refine Ev.aload_n dX4_endNamedAndPrepared_10 rfl ?_
        refine Ev.getr (50) dX4_endNamedAndPrepared_11 fl_X4_18 lx_0 (by decide) rfl rfl ?_
        refine Ev.iload_n dX4_endNamedAndPrepared_14 rfl ?_
        refine Ev.aald dX4_endNamedAndPrepared_15 lx_50 (by omega) (by omega) ?_
        refine Ev.iconst dX4_endNamedAndPrepared_16 ⟨by decide, by decide⟩ ?_
        refine Ev.puti (_ + 13) dX4_endNamedAndPrepared_17 fl_X4_257 ft_2_13 (lx_dev (by omega) (by omega)) (by decide) rfl rfl ?_
        refine Ev.aload_n dX4_endNamedAndPrepared_20 rfl ?_
        refine Ev.getr (50) dX4_endNamedAndPrepared_21 fl_X4_18 lx_0 (by decide) rfl rfl ?_
        refine Ev.iload_n dX4_endNamedAndPrepared_24 rfl ?_
        refine Ev.aald dX4_endNamedAndPrepared_25 lx_50 (by omega) (by omega) ?_
        refine Ev.iconst dX4_endNamedAndPrepared_26 ⟨by decide, by decide⟩ ?_
        refine Ev.putz (_ + 12) dX4_endNamedAndPrepared_27 fl_X4_241 ft_2_12 (lx_dev (by omega) (by omega)) (by decide) rfl rfl (by omega) ?_
        refine Ev.iinc1 dX4_endNamedAndPrepared_30 (by unfold ev_in; omega) ?_
        refine Ev.goto (tgt := 2) dX4_endNamedAndPrepared_33 rfl ?_
        refine ih (k + 1) _ (by omega) ?_
        rw [show it x_enp σ (k + 1) = x_enp (k : Int) (it x_enp σ k) from rfl, ← hρ]
        unfold x_enp
        first | (exfalso; omega) | rfl | (repeat (first | rw [if_pos (by omega)] | rw [if_neg (by omega)]))
  refine Ev.iconst dX4_endNamedAndPrepared_0 ⟨by decide, by decide⟩ ?_
  refine Ev.istore1 rfl dX4_endNamedAndPrepared_1 ?_
  exact loop (σ 4).toNat 0 _ (by omega) rfl
def x_cl (a : Int) (i : Int) (σ : ev_M) : ev_M := if σ (1000 + 100 * i + 3) = a then (if σ (1000 + 100 * i + 4) = 31 then x_bgl i σ else ev_up σ (1000 + 100 * i + 13) 1) else σ
theorem x_cl_o {a i n : Int} {σ : ev_M} (h0 : 0 ≤ i) (h1 : i < 6) (hn : n < 1000) (hn7 : n ≠ 7) : x_cl a i σ n = σ n := by
  unfold x_cl x_bgl
  repeat' split
  all_goals first | rfl | simp (disch := omega) only [ev_up_ne]
theorem s_X4_callListener {a : Int} {σ : ev_M}  (h4 : 0 ≤ σ 4) (h4' : σ 4 ≤ 6) : Ev jX4_callListener layX 0 [some (rv 0), some (iv a), none] [] σ (fun _ σ' => σ' = it (x_cl a) σ (σ 4).toNat) := by
  have loop : ∀ (j k : Nat) (ρ : ev_M), (k : Int) + j = σ 4 → ρ = it (x_cl a) σ k → Ev jX4_callListener layX 2 [some (rv 0), some (iv a), some (iv (k : Int))] [] ρ (fun _ σ' => σ' = it (x_cl a) σ (σ 4).toNat) := by
    intro j
    induction j with
    | zero =>
      intro k ρ hk hρ
      have e4 : ρ 4 = σ 4 := by rw [hρ]; exact it_at' k (fun i σ hi => x_cl_o (by omega) (by omega) (by decide) (by decide))
      refine Ev.iload_n dX4_callListener_2 rfl ?_
      refine Ev.aload_n dX4_callListener_3 rfl ?_
      refine Ev.geti (4) dX4_callListener_4 fl_X4_63 lx_0 (by decide) rfl rfl ?_
      refine Ev.icmp_ge (tgt := 65) dX4_callListener_7 rfl (fun c7 => ?_) (fun c7 => ?_)
      · skip
        refine Ev.vret dX4_callListener_65 rfl ?_
        rw [hρ, show (σ 4).toNat = k by omega]
      · skip
        exact absurd c7 (by omega)
    | succ j ih =>
      intro k ρ hk hρ
      have e4 : ρ 4 = σ 4 := by rw [hρ]; exact it_at' k (fun i σ hi => x_cl_o (by omega) (by omega) (by decide) (by decide))
      refine Ev.iload_n dX4_callListener_2 rfl ?_
      refine Ev.aload_n dX4_callListener_3 rfl ?_
      refine Ev.geti (4) dX4_callListener_4 fl_X4_63 lx_0 (by decide) rfl rfl ?_
      refine Ev.icmp_ge (tgt := 65) dX4_callListener_7 rfl (fun c7 => ?_) (fun c7 => ?_)
      · skip
        exact absurd c7 (by omega)
      · skip
        refine Ev.aload_n dX4_callListener_10 rfl ?_
        refine Ev.getr (50) dX4_callListener_11 fl_X4_18 lx_0 (by decide) rfl rfl ?_
        refine Ev.iload_n dX4_callListener_14 rfl ?_
        refine Ev.aald dX4_callListener_15 lx_50 (by omega) (by omega) ?_
        refine Ev.geti (_ + 3) dX4_callListener_16 fl_X4_197 (lx_dev (by omega) (by omega)) (by decide) rfl rfl ?_
        refine Ev.iload_n dX4_callListener_19 rfl ?_
        refine Ev.icmp_ne (tgt := 59) dX4_callListener_20 rfl (fun c20 => ?_) (fun c20 => ?_)
        · skip
          refine Ev.iinc2 dX4_callListener_59 (by unfold ev_in; omega) ?_
          refine Ev.goto (tgt := 2) dX4_callListener_62 rfl ?_
          refine ih (k + 1) _ (by omega) ?_
          rw [show it (x_cl a) σ (k + 1) = (x_cl a) (k : Int) (it (x_cl a) σ k) from rfl, ← hρ]
          unfold x_cl
          first | (exfalso; omega) | rfl | (repeat (first | rw [if_pos (by omega)] | rw [if_neg (by omega)]))
        · skip
          refine Ev.aload_n dX4_callListener_23 rfl ?_
          refine Ev.getr (50) dX4_callListener_24 fl_X4_18 lx_0 (by decide) rfl rfl ?_
          refine Ev.iload_n dX4_callListener_27 rfl ?_
          refine Ev.aald dX4_callListener_28 lx_50 (by omega) (by omega) ?_
          refine Ev.geti (_ + 4) dX4_callListener_29 fl_X4_200 (lx_dev (by omega) (by omega)) (by decide) rfl rfl ?_
          refine Ev.bipush dX4_callListener_32 ⟨by decide, by decide⟩ (by decide) ?_
          refine Ev.icmp_ne (tgt := 49) dX4_callListener_34 rfl (fun c34 => ?_) (fun c34 => ?_)
          · skip
            refine Ev.aload_n dX4_callListener_49 rfl ?_
            refine Ev.getr (50) dX4_callListener_50 fl_X4_18 lx_0 (by decide) rfl rfl ?_
            refine Ev.iload_n dX4_callListener_53 rfl ?_
            refine Ev.aald dX4_callListener_54 lx_50 (by omega) (by omega) ?_
            refine Ev.iconst dX4_callListener_55 ⟨by decide, by decide⟩ ?_
            refine Ev.puti (_ + 13) dX4_callListener_56 fl_X4_257 ft_2_13 (lx_dev (by omega) (by omega)) (by decide) rfl rfl ?_
            refine Ev.iinc2 dX4_callListener_59 (by unfold ev_in; omega) ?_
            refine Ev.goto (tgt := 2) dX4_callListener_62 rfl ?_
            refine ih (k + 1) _ (by omega) ?_
            rw [show it (x_cl a) σ (k + 1) = (x_cl a) (k : Int) (it (x_cl a) σ k) from rfl, ← hρ]
            unfold x_cl
            first | (exfalso; omega) | rfl | (repeat (first | rw [if_pos (by omega)] | rw [if_neg (by omega)]))
          · skip
            refine Ev.aload_n dX4_callListener_37 rfl ?_
            refine Ev.getr (50) dX4_callListener_38 fl_X4_18 lx_0 (by decide) rfl rfl ?_
            refine Ev.iload_n dX4_callListener_41 rfl ?_
            refine Ev.aald dX4_callListener_42 lx_50 (by omega) (by omega) ?_
            refine Ev.Vv0 (I' := jX2_beginListening) ml_X4_254 dX4_callListener_43 cyX2_beginListening (lx_dev (by omega) (by omega)) rfl (by decide) ⟨by decide, by decide⟩ (by simp) rfl rfl (s_X2_beginListening (by omega) (by omega)) (fun σ' hq => ?_)
            subst hq
            refine Ev.goto (tgt := 59) dX4_callListener_46 rfl ?_
            refine Ev.iinc2 dX4_callListener_59 (by unfold ev_in; omega) ?_
            refine Ev.goto (tgt := 2) dX4_callListener_62 rfl ?_
            refine ih (k + 1) _ (by omega) ?_
            rw [show it (x_cl a) σ (k + 1) = (x_cl a) (k : Int) (it (x_cl a) σ k) from rfl, ← hρ]
            unfold x_cl
            first | (exfalso; omega) | rfl | (repeat (first | rw [if_pos (by omega)] | rw [if_neg (by omega)]))
  refine Ev.iconst dX4_callListener_0 ⟨by decide, by decide⟩ ?_
  refine Ev.istore2 rfl dX4_callListener_1 ?_
  exact loop (σ 4).toNat 0 _ (by omega) rfl
def x_ct (a : Int) (i : Int) (σ : ev_M) : ev_M := if σ (1000 + 100 * i + 3) = a then (if σ (1000 + 100 * i + 4) = 31 then ev_up σ 7 i else ev_up σ (1000 + 100 * i + 13) 2) else σ
theorem x_ct_o {a i n : Int} {σ : ev_M} (h0 : 0 ≤ i) (h1 : i < 6) (hn : n < 1000) (hn7 : n ≠ 7) : x_ct a i σ n = σ n := by
  unfold x_ct
  repeat' split
  all_goals first | rfl | simp (disch := omega) only [ev_up_ne]
theorem s_X4_callTalker {a : Int} {σ : ev_M}  (h4 : 0 ≤ σ 4) (h4' : σ 4 ≤ 6) : Ev jX4_callTalker layX 0 [some (rv 0), some (iv a), none] [] σ (fun _ σ' => σ' = it (x_ct a) (ev_up σ 7 (-4)) (σ 4).toNat) := by
  have loop : ∀ (j k : Nat) (ρ : ev_M), (k : Int) + j = σ 4 → ρ = it (x_ct a) (ev_up σ 7 (-4)) k → Ev jX4_callTalker layX 8 [some (rv 0), some (iv a), some (iv (k : Int))] [] ρ (fun _ σ' => σ' = it (x_ct a) (ev_up σ 7 (-4)) (σ 4).toNat) := by
    intro j
    induction j with
    | zero =>
      intro k ρ hk hρ
      have e4 : ρ 4 = σ 4 := by rw [hρ, it_at' k (fun i σ hi => x_ct_o (by omega) (by omega) (by decide) (by decide))]; exact ev_up_ne (by decide)
      refine Ev.iload_n dX4_callTalker_8 rfl ?_
      refine Ev.aload_n dX4_callTalker_9 rfl ?_
      refine Ev.geti (4) dX4_callTalker_10 fl_X4_63 lx_0 (by decide) rfl rfl ?_
      refine Ev.icmp_ge (tgt := 67) dX4_callTalker_13 rfl (fun c13 => ?_) (fun c13 => ?_)
      · skip
        refine Ev.vret dX4_callTalker_67 rfl ?_
        rw [hρ, show (σ 4).toNat = k by omega]
      · skip
        exact absurd c13 (by omega)
    | succ j ih =>
      intro k ρ hk hρ
      have e4 : ρ 4 = σ 4 := by rw [hρ, it_at' k (fun i σ hi => x_ct_o (by omega) (by omega) (by decide) (by decide))]; exact ev_up_ne (by decide)
      refine Ev.iload_n dX4_callTalker_8 rfl ?_
      refine Ev.aload_n dX4_callTalker_9 rfl ?_
      refine Ev.geti (4) dX4_callTalker_10 fl_X4_63 lx_0 (by decide) rfl rfl ?_
      refine Ev.icmp_ge (tgt := 67) dX4_callTalker_13 rfl (fun c13 => ?_) (fun c13 => ?_)
      · skip
        exact absurd c13 (by omega)
      · skip
        refine Ev.aload_n dX4_callTalker_16 rfl ?_
        refine Ev.getr (50) dX4_callTalker_17 fl_X4_18 lx_0 (by decide) rfl rfl ?_
        refine Ev.iload_n dX4_callTalker_20 rfl ?_
        refine Ev.aald dX4_callTalker_21 lx_50 (by omega) (by omega) ?_
        refine Ev.geti (_ + 3) dX4_callTalker_22 fl_X4_197 (lx_dev (by omega) (by omega)) (by decide) rfl rfl ?_
        refine Ev.iload_n dX4_callTalker_25 rfl ?_
        refine Ev.icmp_ne (tgt := 61) dX4_callTalker_26 rfl (fun c26 => ?_) (fun c26 => ?_)
        · skip
          refine Ev.iinc2 dX4_callTalker_61 (by unfold ev_in; omega) ?_
          refine Ev.goto (tgt := 8) dX4_callTalker_64 rfl ?_
          refine ih (k + 1) _ (by omega) ?_
          rw [show it (x_ct a) (ev_up σ 7 (-4)) (k + 1) = (x_ct a) (k : Int) (it (x_ct a) (ev_up σ 7 (-4)) k) from rfl, ← hρ]
          unfold x_ct
          first | (exfalso; omega) | rfl | (repeat (first | rw [if_pos (by omega)] | rw [if_neg (by omega)]))
        · skip
          refine Ev.aload_n dX4_callTalker_29 rfl ?_
          refine Ev.getr (50) dX4_callTalker_30 fl_X4_18 lx_0 (by decide) rfl rfl ?_
          refine Ev.iload_n dX4_callTalker_33 rfl ?_
          refine Ev.aald dX4_callTalker_34 lx_50 (by omega) (by omega) ?_
          refine Ev.geti (_ + 4) dX4_callTalker_35 fl_X4_200 (lx_dev (by omega) (by omega)) (by decide) rfl rfl ?_
          refine Ev.bipush dX4_callTalker_38 ⟨by decide, by decide⟩ (by decide) ?_
          refine Ev.icmp_ne (tgt := 51) dX4_callTalker_40 rfl (fun c40 => ?_) (fun c40 => ?_)
          · skip
            refine Ev.aload_n dX4_callTalker_51 rfl ?_
            refine Ev.getr (50) dX4_callTalker_52 fl_X4_18 lx_0 (by decide) rfl rfl ?_
            refine Ev.iload_n dX4_callTalker_55 rfl ?_
            refine Ev.aald dX4_callTalker_56 lx_50 (by omega) (by omega) ?_
            refine Ev.iconst dX4_callTalker_57 ⟨by decide, by decide⟩ ?_
            refine Ev.puti (_ + 13) dX4_callTalker_58 fl_X4_257 ft_2_13 (lx_dev (by omega) (by omega)) (by decide) rfl rfl ?_
            refine Ev.iinc2 dX4_callTalker_61 (by unfold ev_in; omega) ?_
            refine Ev.goto (tgt := 8) dX4_callTalker_64 rfl ?_
            refine ih (k + 1) _ (by omega) ?_
            rw [show it (x_ct a) (ev_up σ 7 (-4)) (k + 1) = (x_ct a) (k : Int) (it (x_ct a) (ev_up σ 7 (-4)) k) from rfl, ← hρ]
            unfold x_ct
            first | (exfalso; omega) | rfl | (repeat (first | rw [if_pos (by omega)] | rw [if_neg (by omega)]))
          · skip
            refine Ev.aload_n dX4_callTalker_43 rfl ?_
            refine Ev.iload_n dX4_callTalker_44 rfl ?_
            refine Ev.puti (7) dX4_callTalker_45 fl_X4_89 ft_4_7 lx_0 (by decide) rfl rfl ?_
            refine Ev.goto (tgt := 61) dX4_callTalker_48 rfl ?_
            refine Ev.iinc2 dX4_callTalker_61 (by unfold ev_in; omega) ?_
            refine Ev.goto (tgt := 8) dX4_callTalker_64 rfl ?_
            refine ih (k + 1) _ (by omega) ?_
            rw [show it (x_ct a) (ev_up σ 7 (-4)) (k + 1) = (x_ct a) (k : Int) (it (x_ct a) (ev_up σ 7 (-4)) k) from rfl, ← hρ]
            unfold x_ct
            first | (exfalso; omega) | rfl | (repeat (first | rw [if_pos (by omega)] | rw [if_neg (by omega)]))
  refine Ev.aload_n dX4_callTalker_0 rfl ?_
  refine Ev.bipush dX4_callTalker_1 ⟨by decide, by decide⟩ (by decide) ?_
  refine Ev.puti (7) dX4_callTalker_3 fl_X4_89 ft_4_7 lx_0 (by decide) rfl rfl ?_
  refine Ev.iconst dX4_callTalker_6 ⟨by decide, by decide⟩ ?_
  refine Ev.istore2 rfl dX4_callTalker_7 ?_
  exact loop (σ 4).toNat 0 _ (by omega) rfl
def x_sl (a : Int) (i : Int) (σ : ev_M) : ev_M := if σ (1000 + 100 * i + 12) = 0 then σ else if a < 16 then ev_up (ev_up σ (1000 + 100 * i + 14) (ev_and a 7)) (1000 + 100 * i + 15) (ev_shr a 3) else ev_up σ (1000 + 100 * i + 14) (-4)
theorem x_sl_o {a i n : Int} {σ : ev_M} (h0 : 0 ≤ i) (h1 : i < 6) (hn : n < 1000) (hn7 : n ≠ 7) : x_sl a i σ n = σ n := by
  unfold x_sl
  repeat' split
  all_goals first | rfl | simp (disch := omega) only [ev_up_ne]
theorem s_X4_setLines {a : Int} {σ : ev_M}  (h4 : 0 ≤ σ 4) (h4' : σ 4 ≤ 6) : Ev jX4_setLines layX 0 [some (rv 0), some (iv a), none] [] σ (fun _ σ' => σ' = it (x_sl a) σ (σ 4).toNat) := by
  have loop : ∀ (j k : Nat) (ρ : ev_M), (k : Int) + j = σ 4 → ρ = it (x_sl a) σ k → Ev jX4_setLines layX 2 [some (rv 0), some (iv a), some (iv (k : Int))] [] ρ (fun _ σ' => σ' = it (x_sl a) σ (σ 4).toNat) := by
    intro j
    induction j with
    | zero =>
      intro k ρ hk hρ
      have e4 : ρ 4 = σ 4 := by rw [hρ]; exact it_at' k (fun i σ hi => x_sl_o (by omega) (by omega) (by decide) (by decide))
      refine Ev.iload_n dX4_setLines_2 rfl ?_
      refine Ev.aload_n dX4_setLines_3 rfl ?_
      refine Ev.geti (4) dX4_setLines_4 fl_X4_63 lx_0 (by decide) rfl rfl ?_
      refine Ev.icmp_ge (tgt := 73) dX4_setLines_7 rfl (fun c7 => ?_) (fun c7 => ?_)
      · skip
        refine Ev.vret dX4_setLines_73 rfl ?_
        rw [hρ, show (σ 4).toNat = k by omega]
      · skip
        exact absurd c7 (by omega)
    | succ j ih =>
      intro k ρ hk hρ
      have e4 : ρ 4 = σ 4 := by rw [hρ]; exact it_at' k (fun i σ hi => x_sl_o (by omega) (by omega) (by decide) (by decide))
      refine Ev.iload_n dX4_setLines_2 rfl ?_
      refine Ev.aload_n dX4_setLines_3 rfl ?_
      refine Ev.geti (4) dX4_setLines_4 fl_X4_63 lx_0 (by decide) rfl rfl ?_
      refine Ev.icmp_ge (tgt := 73) dX4_setLines_7 rfl (fun c7 => ?_) (fun c7 => ?_)
      · skip
        exact absurd c7 (by omega)
      · skip
        refine Ev.aload_n dX4_setLines_10 rfl ?_
        refine Ev.getr (50) dX4_setLines_11 fl_X4_18 lx_0 (by decide) rfl rfl ?_
        refine Ev.iload_n dX4_setLines_14 rfl ?_
        refine Ev.aald dX4_setLines_15 lx_50 (by omega) (by omega) ?_
        refine Ev.geti (_ + 12) dX4_setLines_16 fl_X4_241 (lx_dev (by omega) (by omega)) (by decide) rfl rfl ?_
        refine Ev.if_eq (tgt := 67) dX4_setLines_19 rfl (fun c19 => ?_) (fun c19 => ?_)
        · skip
          refine Ev.iinc2 dX4_setLines_67 (by unfold ev_in; omega) ?_
          refine Ev.goto (tgt := 2) dX4_setLines_70 rfl ?_
          refine ih (k + 1) _ (by omega) ?_
          rw [show it (x_sl a) σ (k + 1) = (x_sl a) (k : Int) (it (x_sl a) σ k) from rfl, ← hρ]
          unfold x_sl
          first | (exfalso; omega) | rfl | (repeat (first | rw [if_pos (by omega)] | rw [if_neg (by omega)]))
        · skip
          refine Ev.iload_n dX4_setLines_22 rfl ?_
          refine Ev.bipush dX4_setLines_23 ⟨by decide, by decide⟩ (by decide) ?_
          refine Ev.icmp_ge (tgt := 56) dX4_setLines_25 rfl (fun c25 => ?_) (fun c25 => ?_)
          · skip
            refine Ev.aload_n dX4_setLines_56 rfl ?_
            refine Ev.getr (50) dX4_setLines_57 fl_X4_18 lx_0 (by decide) rfl rfl ?_
            refine Ev.iload_n dX4_setLines_60 rfl ?_
            refine Ev.aald dX4_setLines_61 lx_50 (by omega) (by omega) ?_
            refine Ev.bipush dX4_setLines_62 ⟨by decide, by decide⟩ (by decide) ?_
            refine Ev.puti (_ + 14) dX4_setLines_64 fl_X4_238 ft_2_14 (lx_dev (by omega) (by omega)) (by decide) rfl rfl ?_
            refine Ev.iinc2 dX4_setLines_67 (by unfold ev_in; omega) ?_
            refine Ev.goto (tgt := 2) dX4_setLines_70 rfl ?_
            refine ih (k + 1) _ (by omega) ?_
            rw [show it (x_sl a) σ (k + 1) = (x_sl a) (k : Int) (it (x_sl a) σ k) from rfl, ← hρ]
            unfold x_sl
            first | (exfalso; omega) | rfl | (repeat (first | rw [if_pos (by omega)] | rw [if_neg (by omega)]))
          · skip
            refine Ev.aload_n dX4_setLines_28 rfl ?_
            refine Ev.getr (50) dX4_setLines_29 fl_X4_18 lx_0 (by decide) rfl rfl ?_
            refine Ev.iload_n dX4_setLines_32 rfl ?_
            refine Ev.aald dX4_setLines_33 lx_50 (by omega) (by omega) ?_
            refine Ev.iload_n dX4_setLines_34 rfl ?_
            refine Ev.bipush dX4_setLines_35 ⟨by decide, by decide⟩ (by decide) ?_
            refine Ev.iand dX4_setLines_37 ?_
            refine Ev.puti (_ + 14) dX4_setLines_38 fl_X4_238 ft_2_14 (lx_dev (by omega) (by omega)) (by decide) rfl rfl ?_
            refine Ev.aload_n dX4_setLines_41 rfl ?_
            refine Ev.getr (50) dX4_setLines_42 fl_X4_18 lx_0 (by decide) rfl rfl ?_
            refine Ev.iload_n dX4_setLines_45 rfl ?_
            refine Ev.aald dX4_setLines_46 lx_50 (by omega) (by omega) ?_
            refine Ev.iload_n dX4_setLines_47 rfl ?_
            refine Ev.iconst dX4_setLines_48 ⟨by decide, by decide⟩ ?_
            refine Ev.ishr dX4_setLines_49 ?_
            refine Ev.puti (_ + 15) dX4_setLines_50 fl_X4_266 ft_2_15 (lx_dev (by omega) (by omega)) (by decide) rfl rfl ?_
            refine Ev.goto (tgt := 67) dX4_setLines_53 rfl ?_
            refine Ev.iinc2 dX4_setLines_67 (by unfold ev_in; omega) ?_
            refine Ev.goto (tgt := 2) dX4_setLines_70 rfl ?_
            refine ih (k + 1) _ (by omega) ?_
            rw [show it (x_sl a) σ (k + 1) = (x_sl a) (k : Int) (it (x_sl a) σ k) from rfl, ← hρ]
            unfold x_sl
            first | (exfalso; omega) | rfl | (repeat (first | rw [if_pos (by omega)] | rw [if_neg (by omega)]))
  refine Ev.iconst dX4_setLines_0 ⟨by decide, by decide⟩ ?_
  refine Ev.istore2 rfl dX4_setLines_1 ?_
  exact loop (σ 4).toNat 0 _ (by omega) rfl
def x_as (a : Int) (i : Int) (σ : ev_M) : ev_M := if σ (1000 + 100 * i + 4) = a then (if σ (1000 + 100 * i + 13) = 1 then x_bgl i σ else if σ (1000 + 100 * i + 13) = 2 then ev_up σ 7 i else σ) else σ
theorem x_as_o {a i n : Int} {σ : ev_M} (h0 : 0 ≤ i) (h1 : i < 6) (hn : n < 1000) (hn7 : n ≠ 7) : x_as a i σ n = σ n := by
  unfold x_as x_bgl
  repeat' split
  all_goals first | rfl | simp (disch := omega) only [ev_up_ne]
theorem s_X4_answerSecond {a : Int} {σ : ev_M}  (h4 : 0 ≤ σ 4) (h4' : σ 4 ≤ 6) : Ev jX4_answerSecond layX 0 [some (rv 0), some (iv a), none] [] σ (fun _ σ' => σ' = it (x_as a) σ (σ 4).toNat) := by
  have loop : ∀ (j k : Nat) (ρ : ev_M), (k : Int) + j = σ 4 → ρ = it (x_as a) σ k → Ev jX4_answerSecond layX 2 [some (rv 0), some (iv a), some (iv (k : Int))] [] ρ (fun _ σ' => σ' = it (x_as a) σ (σ 4).toNat) := by
    intro j
    induction j with
    | zero =>
      intro k ρ hk hρ
      have e4 : ρ 4 = σ 4 := by rw [hρ]; exact it_at' k (fun i σ hi => x_as_o (by omega) (by omega) (by decide) (by decide))
      refine Ev.iload_n dX4_answerSecond_2 rfl ?_
      refine Ev.aload_n dX4_answerSecond_3 rfl ?_
      refine Ev.geti (4) dX4_answerSecond_4 fl_X4_63 lx_0 (by decide) rfl rfl ?_
      refine Ev.icmp_ge (tgt := 72) dX4_answerSecond_7 rfl (fun c7 => ?_) (fun c7 => ?_)
      · skip
        refine Ev.vret dX4_answerSecond_72 rfl ?_
        rw [hρ, show (σ 4).toNat = k by omega]
      · skip
        exact absurd c7 (by omega)
    | succ j ih =>
      intro k ρ hk hρ
      have e4 : ρ 4 = σ 4 := by rw [hρ]; exact it_at' k (fun i σ hi => x_as_o (by omega) (by omega) (by decide) (by decide))
      refine Ev.iload_n dX4_answerSecond_2 rfl ?_
      refine Ev.aload_n dX4_answerSecond_3 rfl ?_
      refine Ev.geti (4) dX4_answerSecond_4 fl_X4_63 lx_0 (by decide) rfl rfl ?_
      refine Ev.icmp_ge (tgt := 72) dX4_answerSecond_7 rfl (fun c7 => ?_) (fun c7 => ?_)
      · skip
        exact absurd c7 (by omega)
      · skip
        refine Ev.aload_n dX4_answerSecond_10 rfl ?_
        refine Ev.getr (50) dX4_answerSecond_11 fl_X4_18 lx_0 (by decide) rfl rfl ?_
        refine Ev.iload_n dX4_answerSecond_14 rfl ?_
        refine Ev.aald dX4_answerSecond_15 lx_50 (by omega) (by omega) ?_
        refine Ev.geti (_ + 4) dX4_answerSecond_16 fl_X4_200 (lx_dev (by omega) (by omega)) (by decide) rfl rfl ?_
        refine Ev.iload_n dX4_answerSecond_19 rfl ?_
        refine Ev.icmp_ne (tgt := 66) dX4_answerSecond_20 rfl (fun c20 => ?_) (fun c20 => ?_)
        · skip
          refine Ev.iinc2 dX4_answerSecond_66 (by unfold ev_in; omega) ?_
          refine Ev.goto (tgt := 2) dX4_answerSecond_69 rfl ?_
          refine ih (k + 1) _ (by omega) ?_
          rw [show it (x_as a) σ (k + 1) = (x_as a) (k : Int) (it (x_as a) σ k) from rfl, ← hρ]
          unfold x_as
          first | (exfalso; omega) | rfl | (repeat (first | rw [if_pos (by omega)] | rw [if_neg (by omega)]))
        · skip
          refine Ev.aload_n dX4_answerSecond_23 rfl ?_
          refine Ev.getr (50) dX4_answerSecond_24 fl_X4_18 lx_0 (by decide) rfl rfl ?_
          refine Ev.iload_n dX4_answerSecond_27 rfl ?_
          refine Ev.aald dX4_answerSecond_28 lx_50 (by omega) (by omega) ?_
          refine Ev.geti (_ + 13) dX4_answerSecond_29 fl_X4_257 (lx_dev (by omega) (by omega)) (by decide) rfl rfl ?_
          refine Ev.iconst dX4_answerSecond_32 ⟨by decide, by decide⟩ ?_
          refine Ev.icmp_ne (tgt := 48) dX4_answerSecond_33 rfl (fun c33 => ?_) (fun c33 => ?_)
          · skip
            refine Ev.aload_n dX4_answerSecond_48 rfl ?_
            refine Ev.getr (50) dX4_answerSecond_49 fl_X4_18 lx_0 (by decide) rfl rfl ?_
            refine Ev.iload_n dX4_answerSecond_52 rfl ?_
            refine Ev.aald dX4_answerSecond_53 lx_50 (by omega) (by omega) ?_
            refine Ev.geti (_ + 13) dX4_answerSecond_54 fl_X4_257 (lx_dev (by omega) (by omega)) (by decide) rfl rfl ?_
            refine Ev.iconst dX4_answerSecond_57 ⟨by decide, by decide⟩ ?_
            refine Ev.icmp_ne (tgt := 66) dX4_answerSecond_58 rfl (fun c58 => ?_) (fun c58 => ?_)
            · skip
              refine Ev.iinc2 dX4_answerSecond_66 (by unfold ev_in; omega) ?_
              refine Ev.goto (tgt := 2) dX4_answerSecond_69 rfl ?_
              refine ih (k + 1) _ (by omega) ?_
              rw [show it (x_as a) σ (k + 1) = (x_as a) (k : Int) (it (x_as a) σ k) from rfl, ← hρ]
              unfold x_as
              first | (exfalso; omega) | rfl | (repeat (first | rw [if_pos (by omega)] | rw [if_neg (by omega)]))
            · skip
              refine Ev.aload_n dX4_answerSecond_61 rfl ?_
              refine Ev.iload_n dX4_answerSecond_62 rfl ?_
              refine Ev.puti (7) dX4_answerSecond_63 fl_X4_89 ft_4_7 lx_0 (by decide) rfl rfl ?_
              refine Ev.iinc2 dX4_answerSecond_66 (by unfold ev_in; omega) ?_
              refine Ev.goto (tgt := 2) dX4_answerSecond_69 rfl ?_
              refine ih (k + 1) _ (by omega) ?_
              rw [show it (x_as a) σ (k + 1) = (x_as a) (k : Int) (it (x_as a) σ k) from rfl, ← hρ]
              unfold x_as
              first | (exfalso; omega) | rfl | (repeat (first | rw [if_pos (by omega)] | rw [if_neg (by omega)]))
          · skip
            refine Ev.aload_n dX4_answerSecond_36 rfl ?_
            refine Ev.getr (50) dX4_answerSecond_37 fl_X4_18 lx_0 (by decide) rfl rfl ?_
            refine Ev.iload_n dX4_answerSecond_40 rfl ?_
            refine Ev.aald dX4_answerSecond_41 lx_50 (by omega) (by omega) ?_
            refine Ev.Vv0 (I' := jX2_beginListening) ml_X4_254 dX4_answerSecond_42 cyX2_beginListening (lx_dev (by omega) (by omega)) rfl (by decide) ⟨by decide, by decide⟩ (by simp) rfl rfl (s_X2_beginListening (by omega) (by omega)) (fun σ' hq => ?_)
            subst hq
            refine Ev.goto (tgt := 66) dX4_answerSecond_45 rfl ?_
            refine Ev.iinc2 dX4_answerSecond_66 (by unfold ev_in; omega) ?_
            refine Ev.goto (tgt := 2) dX4_answerSecond_69 rfl ?_
            refine ih (k + 1) _ (by omega) ?_
            rw [show it (x_as a) σ (k + 1) = (x_as a) (k : Int) (it (x_as a) σ k) from rfl, ← hρ]
            unfold x_as
            first | (exfalso; omega) | rfl | (repeat (first | rw [if_pos (by omega)] | rw [if_neg (by omega)]))
  refine Ev.iconst dX4_answerSecond_0 ⟨by decide, by decide⟩ ?_
  refine Ev.istore2 rfl dX4_answerSecond_1 ?_
  exact loop (σ 4).toNat 0 _ (by omega) rfl
theorem s_X4_isDevice {d : Int} {σ : ev_M} : Ev jX4_isDevice layX 0 [some (rv 0), some (iv d)] [] σ (fun r σ' => ((r = 1 ∧ 0 ≤ d ∧ d < σ 4) ∨ (r = 0 ∧ ¬ (0 ≤ d ∧ d < σ 4))) ∧ σ' = σ) := by
  refine Ev.iload_n dX4_isDevice_0 rfl ?_
  refine Ev.if_lt (tgt := 16) dX4_isDevice_1 rfl (fun c1 => ?_) (fun c1 => ?_)
  · skip
    refine Ev.iconst dX4_isDevice_16 ⟨by decide, by decide⟩ ?_
    refine Ev.bool rfl dX4_isDevice_17 (by omega) ?_
    exact ⟨by omega, rfl⟩
  · skip
    refine Ev.iload_n dX4_isDevice_4 rfl ?_
    refine Ev.aload_n dX4_isDevice_5 rfl ?_
    refine Ev.geti (4) dX4_isDevice_6 fl_X4_63 lx_0 (by decide) rfl rfl ?_
    refine Ev.icmp_ge (tgt := 16) dX4_isDevice_9 rfl (fun c9 => ?_) (fun c9 => ?_)
    · skip
      refine Ev.iconst dX4_isDevice_16 ⟨by decide, by decide⟩ ?_
      refine Ev.bool rfl dX4_isDevice_17 (by omega) ?_
      exact ⟨by omega, rfl⟩
    · skip
      refine Ev.iconst dX4_isDevice_12 ⟨by decide, by decide⟩ ?_
      refine Ev.goto (tgt := 17) dX4_isDevice_13 rfl ?_
      refine Ev.bool rfl dX4_isDevice_17 (by omega) ?_
      exact ⟨by omega, rfl⟩
theorem s_X4_takesBytes {i : Int} {σ : ev_M} (h0 : 0 ≤ i) (h1 : i < 6) : Ev jX4_takesBytes layX 0 [some (rv 0), some (iv i)] [] σ (fun r σ' => ((r = 1 ∧ i ≠ σ 7 ∧ σ (1000 + 100 * i + 9) ≠ 0) ∨ (r = 0 ∧ ¬ (i ≠ σ 7 ∧ σ (1000 + 100 * i + 9) ≠ 0))) ∧ σ' = σ) := by
  refine Ev.iload_n dX4_takesBytes_0 rfl ?_
  refine Ev.aload_n dX4_takesBytes_1 rfl ?_
  refine Ev.geti (7) dX4_takesBytes_2 fl_X4_89 lx_0 (by decide) rfl rfl ?_
  refine Ev.icmp_eq (tgt := 24) dX4_takesBytes_5 rfl (fun c5 => ?_) (fun c5 => ?_)
  · skip
    refine Ev.iconst dX4_takesBytes_24 ⟨by decide, by decide⟩ ?_
    refine Ev.bool rfl dX4_takesBytes_25 (by omega) ?_
    exact ⟨by omega, rfl⟩
  · skip
    refine Ev.aload_n dX4_takesBytes_8 rfl ?_
    refine Ev.getr (50) dX4_takesBytes_9 fl_X4_18 lx_0 (by decide) rfl rfl ?_
    refine Ev.iload_n dX4_takesBytes_12 rfl ?_
    refine Ev.aald dX4_takesBytes_13 lx_50 (by omega) (by omega) ?_
    refine Ev.geti (_ + 9) dX4_takesBytes_14 fl_X4_229 (lx_dev (by omega) (by omega)) (by decide) rfl rfl ?_
    refine Ev.if_eq (tgt := 24) dX4_takesBytes_17 rfl (fun c17 => ?_) (fun c17 => ?_)
    · skip
      refine Ev.iconst dX4_takesBytes_24 ⟨by decide, by decide⟩ ?_
      refine Ev.bool rfl dX4_takesBytes_25 (by omega) ?_
      exact ⟨by omega, rfl⟩
    · skip
      refine Ev.iconst dX4_takesBytes_20 ⟨by decide, by decide⟩ ?_
      refine Ev.goto (tgt := 25) dX4_takesBytes_21 rfl ?_
      refine Ev.bool rfl dX4_takesBytes_25 (by omega) ?_
      exact ⟨by omega, rfl⟩
theorem XI.clear {b i : Int} {σ : ev_M} (h : XI b σ) (h0 : 0 ≤ i) (h1 : i < 6) : XI b (x_clear i σ) := ((((h.u21 h0 h1 (by decide) (by decide)).u51 h0 h1 (by decide) (by decide)).u7 h0 h1 (by decide) (by decide)).u8 h0 h1 (by decide) (by decide)).u17 h0 h1 (by decide) (by have := h.s5; omega)
theorem XI.come {b i : Int} {σ : ev_M} (h : XI b σ) (h0 : 0 ≤ i) (h1 : i < 6) : XI b (x_come i σ) := by
  have a16 := h.d16 h0 h1
  have a3 := h.d3 h0 h1
  have hv : 0 ≤ x_rdg i σ ∧ x_rdg i σ < 100 := by unfold x_rdg; omega
  unfold x_come
  rw [show 1000 + 100 * i + 20 + 10 + 0 = 1000 + 100 * i + 30 by omega, show 1000 + 100 * i + 20 + 10 + 1 = 1000 + 100 * i + 31 by omega]
  exact (((((h.ubyte h0 h1 (Or.inl (by decide)) (by unfold ev_in; omega)).ubyte h0 h1 (Or.inl (by decide)) (by unfold ev_in; omega)).u21 h0 h1 (by decide) (by decide)).u7 h0 h1 (by decide) (by decide)).u8 h0 h1 (by decide) (by decide)).u17 h0 h1 (by decide) (by have := h.s5; omega)
theorem x_come_o {i n : Int} {σ : ev_M} (h0 : 0 ≤ i) (h1 : i < 6) (hn : n < 1000) : x_come i σ n = σ n := by
  unfold x_come
  simp (disch := omega) only [ev_up_ne]
def x_pk (i : Int) (σ : ev_M) : ev_M := if σ (1000 + 100 * i + 17) ≠ -4 ∧ σ (1000 + 100 * i + 17) ≤ σ 5 then ev_up (x_come i σ) 43 (σ 43 + 1) else σ
theorem x_pk_o {i n : Int} {σ : ev_M} (h0 : 0 ≤ i) (h1 : i < 6) (hn : n < 1000) (h43 : n ≠ 43) : x_pk i σ n = σ n := by
  unfold x_pk
  split
  · rw [ev_up_ne h43, x_come_o h0 h1 hn]
  · rfl
theorem XI.pk {b i : Int} {σ : ev_M} (h : XI b σ) (h0 : 0 ≤ i) (h1 : i < 6) : XI (b + 1) (x_pk i σ) := by
  have a := h.sum (n := 43) (by decide)
  unfold x_pk
  split
  · exact ((h.come h0 h1).mono (by omega)).usum (by decide) (by omega) (by omega)
  · exact h.mono (by omega)
def x_pass (n : Int) (σ : ev_M) : ev_M := it x_pk (ev_up σ 5 (σ 5 + n)) (σ 4).toNat
theorem XI.nown {b n : Int} {σ : ev_M} (h : XI b σ) (hn : 0 ≤ n) : XI (b + n) (ev_up σ 5 (σ 5 + n)) := (h.mono (by omega)).t5 (by have := h.s5; omega) (by have := h.s5; omega)
theorem XI.pass {b n : Int} {σ : ev_M} (h : XI b σ) (hn : 0 ≤ n) : XI (b + n + 6) (x_pass n σ) := it_XI1 (fun i b τ hi h => h.pk (by omega) (by omega)) (h.nown hn) _ h.nat4
theorem x_pass_o {n m : Int} {b : Int} {σ : ev_M} (h : XI b σ) (hm : m < 1000) (h43 : m ≠ 43) (h5 : m ≠ 5) : x_pass n σ m = σ m := by
  have := h.nat4
  unfold x_pass
  rw [it_at' _ (fun i σ hi => x_pk_o (by omega) (by omega) hm h43), ev_up_ne h5]
theorem s_X4_passTicks {b n : Int} {σ : ev_M} (hn0 : 0 ≤ n) (hn : n ≤ 1000) (hX : XI b σ) (hb : b ≤ 900000000) : Ev jX4_passTicks layX 0 [some (rv 0), some (iv n), none] [] σ (fun _ σ' => σ' = x_pass n σ) := by
  have h4 := hX.s4
  have h5 := hX.s5
  have loop : ∀ (j k : Nat) (ρ : ev_M), (k : Int) + j = σ 4 → ρ = it x_pk (ev_up σ 5 (σ 5 + n)) k → Ev jX4_passTicks layX 12 [some (rv 0), some (iv n), some (iv (k : Int))] [] ρ (fun _ σ' => σ' = x_pass n σ) := by
    intro j
    induction j with
    | zero =>
      intro k ρ hk hρ
      have e4 : ρ 4 = σ 4 := by rw [hρ, it_at' k (fun i σ hi => x_pk_o (by omega) (by omega) (by decide) (by decide)), ev_up_ne (by decide)]
      refine Ev.iload_n dX4_passTicks_12 rfl ?_
      refine Ev.aload_n dX4_passTicks_13 rfl ?_
      refine Ev.geti (4) dX4_passTicks_14 fl_X4_63 lx_0 (by decide) rfl rfl ?_
      refine Ev.icmp_ge (tgt := 61) dX4_passTicks_17 rfl (fun c17 => ?_) (fun c17 => ?_)
      · skip
        refine Ev.vret dX4_passTicks_61 rfl ?_
        unfold x_pass
        rw [hρ, show (σ 4).toNat = k by omega]
      · skip
        exact absurd c17 (by omega)
    | succ j ih =>
      intro k ρ hk hρ
      have e4 : ρ 4 = σ 4 := by rw [hρ, it_at' k (fun i σ hi => x_pk_o (by omega) (by omega) (by decide) (by decide)), ev_up_ne (by decide)]
      have hXk := it_XI1 (fun i b τ hi h => h.pk (by omega) (by omega)) (hX.nown hn0) k (by omega)
      rw [← hρ] at hXk
      have a16 := hXk.d16 (i := (k : Int)) (by omega) (by omega)
      have a3 := hXk.d3 (i := (k : Int)) (by omega) (by omega)
      have a43 := hXk.sum (n := 43) (by decide)
      refine Ev.iload_n dX4_passTicks_12 rfl ?_
      refine Ev.aload_n dX4_passTicks_13 rfl ?_
      refine Ev.geti (4) dX4_passTicks_14 fl_X4_63 lx_0 (by decide) rfl rfl ?_
      refine Ev.icmp_ge (tgt := 61) dX4_passTicks_17 rfl (fun c17 => ?_) (fun c17 => ?_)
      · skip
        exact absurd c17 (by omega)
      · skip
        refine Ev.aload_n dX4_passTicks_20 rfl ?_
        refine Ev.getr (50) dX4_passTicks_21 fl_X4_18 lx_0 (by decide) rfl rfl ?_
        refine Ev.iload_n dX4_passTicks_24 rfl ?_
        refine Ev.aald dX4_passTicks_25 lx_50 (by omega) (by omega) ?_
        refine Ev.aload_n dX4_passTicks_26 rfl ?_
        refine Ev.geti (5) dX4_passTicks_27 fl_X4_70 lx_0 (by decide) rfl rfl ?_
        refine Ev.Vi1 (I' := jX2_isDueBy) ml_X4_186 dX4_passTicks_30 cyX2_isDueBy (lx_dev (by omega) (by omega)) rfl (by decide) ⟨by decide, by decide⟩ (by simp) rfl rfl (s_X2_isDueBy (by omega) (by omega)) (fun r σ' hr30 hq => ?_)
        obtain ⟨hq1, hq⟩ := hq
        replace hq := hq.symm
        subst hq
        refine Ev.if_eq (tgt := 55) dX4_passTicks_33 rfl (fun c33 => ?_) (fun c33 => ?_)
        · skip
          refine Ev.iinc2 dX4_passTicks_55 (by unfold ev_in; omega) ?_
          refine Ev.goto (tgt := 12) dX4_passTicks_58 rfl ?_
          refine ih (k + 1) _ (by omega) ?_
          rw [show it x_pk (ev_up σ 5 (σ 5 + n)) (k + 1) = x_pk (k : Int) (it x_pk (ev_up σ 5 (σ 5 + n)) k) from rfl, ← hρ]
          unfold x_pk
          first | rw [if_pos (by omega)] | rw [if_neg (by omega)]
        · skip
          refine Ev.aload_n dX4_passTicks_36 rfl ?_
          refine Ev.getr (50) dX4_passTicks_37 fl_X4_18 lx_0 (by decide) rfl rfl ?_
          refine Ev.iload_n dX4_passTicks_40 rfl ?_
          refine Ev.aald dX4_passTicks_41 lx_50 (by omega) (by omega) ?_
          refine Ev.Vv0 (I' := jX2_comeReading) ml_X4_189 dX4_passTicks_42 cyX2_comeReading (lx_dev (by omega) (by omega)) rfl (by decide) ⟨by decide, by decide⟩ (by simp) rfl rfl (s_X2_comeReading (by omega) (by omega) (by omega) (by omega) (by omega) (by omega)) (fun σ' hq => ?_)
          subst hq
          refine Ev.aload_n dX4_passTicks_45 rfl ?_
          refine Ev.getr (40) dX4_passTicks_46 fl_X4_30 lx_0 (by decide) rfl rfl ?_
          refine Ev.iconst dX4_passTicks_49 ⟨by decide, by decide⟩ ?_
          refine Ev.dup2 dX4_passTicks_50 ?_
          refine Ev.ialdn (43) dX4_passTicks_51 lx_40 (Or.inl rfl) (by decide) (by decide) rfl ?_
          try simp (disch := omega) only [x_come_o, ev_up_ne, ev_up_eqs]
          refine Ev.iconst dX4_passTicks_52 ⟨by decide, by decide⟩ ?_
          refine Ev.iadd dX4_passTicks_53 (by unfold ev_in; omega) ?_
          refine Ev.iastn (43) dX4_passTicks_54 lx_40 (by decide) (by decide) rfl ?_
          refine Ev.iinc2 dX4_passTicks_55 (by unfold ev_in; omega) ?_
          refine Ev.goto (tgt := 12) dX4_passTicks_58 rfl ?_
          refine ih (k + 1) _ (by omega) ?_
          rw [show it x_pk (ev_up σ 5 (σ 5 + n)) (k + 1) = x_pk (k : Int) (it x_pk (ev_up σ 5 (σ 5 + n)) k) from rfl, ← hρ]
          unfold x_pk
          first | rw [if_pos (by omega)] | rw [if_neg (by omega)]
  refine Ev.aload_n dX4_passTicks_0 rfl ?_
  refine Ev.dup dX4_passTicks_1 ?_
  refine Ev.geti (5) dX4_passTicks_2 fl_X4_70 lx_0 (by decide) rfl rfl ?_
  refine Ev.iload_n dX4_passTicks_5 rfl ?_
  refine Ev.iadd dX4_passTicks_6 (by unfold ev_in; omega) ?_
  refine Ev.puti (5) dX4_passTicks_7 fl_X4_70 ft_4_5 lx_0 (by decide) rfl rfl ?_
  refine Ev.iconst dX4_passTicks_10 ⟨by decide, by decide⟩ ?_
  refine Ev.istore2 rfl dX4_passTicks_11 ?_
  exact loop (σ 4).toNat 0 _ (by omega) rfl
def gpr (σ : ev_M) : Nat → Int
  | 0 => 0
  | k + 1 => if gpr σ k < σ (1000 + 100 * (k : Int) + 5) then σ (1000 + 100 * (k : Int) + 5) else gpr σ k
def x_gp (σ : ev_M) : Int := gpr σ (σ 4).toNat
theorem gpr_rng {b : Int} {σ : ev_M} (h : XI b σ) : ∀ k : Nat, k ≤ 6 → 0 ≤ gpr σ k ∧ gpr σ k ≤ 9
  | 0, _ => ⟨Int.le_refl 0, show (0 : Int) ≤ 9 by decide⟩
  | k + 1, hk => by
    have := gpr_rng h k (by omega)
    have h3 := h.d5 (i := (k : Int)) (by omega) (by omega)
    show 0 ≤ (if gpr σ k < σ (1000 + 100 * (k : Int) + 5) then σ (1000 + 100 * (k : Int) + 5) else gpr σ k) ∧ (if gpr σ k < σ (1000 + 100 * (k : Int) + 5) then σ (1000 + 100 * (k : Int) + 5) else gpr σ k) ≤ 9
    split <;> omega
theorem x_gp_rng {b : Int} {σ : ev_M} (h : XI b σ) : 0 ≤ x_gp σ ∧ x_gp σ ≤ 9 := gpr_rng h _ h.nat4
theorem s_X4_greatestPace {σ : ev_M} (h4 : 0 ≤ σ 4) (h4' : σ 4 ≤ 6) : Ev jX4_greatestPace layX 0 [some (rv 0), none, none] [] σ (fun r σ' => r = x_gp σ ∧ σ' = σ) := by
  have loop : ∀ (j k : Nat), (k : Int) + j = σ 4 → Ev jX4_greatestPace layX 4 [some (rv 0), some (iv (gpr σ k)), some (iv (k : Int))] [] σ (fun r σ' => r = x_gp σ ∧ σ' = σ) := by
    intro j
    induction j with
    | zero =>
      intro k hk
      refine Ev.iload_n dX4_greatestPace_4 rfl ?_
      refine Ev.aload_n dX4_greatestPace_5 rfl ?_
      refine Ev.geti (4) dX4_greatestPace_6 fl_X4_63 lx_0 (by decide) rfl rfl ?_
      refine Ev.icmp_ge (tgt := 32) dX4_greatestPace_9 rfl (fun c9 => ?_) (fun c9 => ?_)
      · skip
        refine Ev.iload_n dX4_greatestPace_32 rfl ?_
        refine Ev.int rfl dX4_greatestPace_33 ?_
        refine ⟨?_, rfl⟩
        unfold x_gp
        rw [show (σ 4).toNat = k by omega]
      · skip
        exact absurd c9 (by omega)
    | succ j ih =>
      intro k hk
      refine Ev.iload_n dX4_greatestPace_4 rfl ?_
      refine Ev.aload_n dX4_greatestPace_5 rfl ?_
      refine Ev.geti (4) dX4_greatestPace_6 fl_X4_63 lx_0 (by decide) rfl rfl ?_
      refine Ev.icmp_ge (tgt := 32) dX4_greatestPace_9 rfl (fun c9 => ?_) (fun c9 => ?_)
      · skip
        exact absurd c9 (by omega)
      · skip
        refine Ev.iload_n dX4_greatestPace_12 rfl ?_
        refine Ev.aload_n dX4_greatestPace_13 rfl ?_
        refine Ev.getr (50) dX4_greatestPace_14 fl_X4_18 lx_0 (by decide) rfl rfl ?_
        refine Ev.iload_n dX4_greatestPace_17 rfl ?_
        refine Ev.aald dX4_greatestPace_18 lx_50 (by omega) (by omega) ?_
        refine Ev.geti (_ + 5) dX4_greatestPace_19 fl_X4_144 (lx_dev (by omega) (by omega)) (by decide) rfl rfl ?_
        refine Ev.mmax dX4_greatestPace_22 ml_X4_192 ms_max mi_math mc_max (by decide) (by simp) ?_
        refine Ev.istore1 rfl dX4_greatestPace_25 ?_
        refine Ev.iinc2 dX4_greatestPace_26 (by unfold ev_in; omega) ?_
        refine Ev.goto (tgt := 4) dX4_greatestPace_29 rfl ?_
        exact ih (k + 1) (by omega)
  refine Ev.iconst dX4_greatestPace_0 ⟨by decide, by decide⟩ ?_
  refine Ev.istore1 rfl dX4_greatestPace_1 ?_
  refine Ev.iconst dX4_greatestPace_2 ⟨by decide, by decide⟩ ?_
  refine Ev.istore2 rfl dX4_greatestPace_3 ?_
  exact loop (σ 4).toNat 0 (by omega)
def lbr (σ : ev_M) : Nat → Int
  | 0 => 0
  | k + 1 => if σ (1000 + 100 * (k : Int) + 9) = 0 then lbr σ k else ev_or (lbr σ k) (ev_shl 1 (k : Int))
def x_lbs (σ : ev_M) : Int := lbr σ (σ 4).toNat
theorem s_X4_listenerBits {σ : ev_M} (h4 : 0 ≤ σ 4) (h4' : σ 4 ≤ 6) : Ev jX4_listenerBits layX 0 [some (rv 0), none, none] [] σ (fun r σ' => r = x_lbs σ ∧ σ' = σ) := by
  have loop : ∀ (j k : Nat), (k : Int) + j = σ 4 → Ev jX4_listenerBits layX 4 [some (rv 0), some (iv (lbr σ k)), some (iv (k : Int))] [] σ (fun r σ' => r = x_lbs σ ∧ σ' = σ) := by
    intro j
    induction j with
    | zero =>
      intro k hk
      refine Ev.iload_n dX4_listenerBits_4 rfl ?_
      refine Ev.aload_n dX4_listenerBits_5 rfl ?_
      refine Ev.geti (4) dX4_listenerBits_6 fl_X4_63 lx_0 (by decide) rfl rfl ?_
      refine Ev.icmp_ge (tgt := 36) dX4_listenerBits_9 rfl (fun c9 => ?_) (fun c9 => ?_)
      · skip
        refine Ev.iload_n dX4_listenerBits_36 rfl ?_
        refine Ev.int rfl dX4_listenerBits_37 ?_
        refine ⟨?_, rfl⟩
        unfold x_lbs
        rw [show (σ 4).toNat = k by omega]
      · skip
        exact absurd c9 (by omega)
    | succ j ih =>
      intro k hk
      refine Ev.iload_n dX4_listenerBits_4 rfl ?_
      refine Ev.aload_n dX4_listenerBits_5 rfl ?_
      refine Ev.geti (4) dX4_listenerBits_6 fl_X4_63 lx_0 (by decide) rfl rfl ?_
      refine Ev.icmp_ge (tgt := 36) dX4_listenerBits_9 rfl (fun c9 => ?_) (fun c9 => ?_)
      · skip
        exact absurd c9 (by omega)
      · skip
        refine Ev.aload_n dX4_listenerBits_12 rfl ?_
        refine Ev.getr (50) dX4_listenerBits_13 fl_X4_18 lx_0 (by decide) rfl rfl ?_
        refine Ev.iload_n dX4_listenerBits_16 rfl ?_
        refine Ev.aald dX4_listenerBits_17 lx_50 (by omega) (by omega) ?_
        refine Ev.geti (_ + 9) dX4_listenerBits_18 fl_X4_229 (lx_dev (by omega) (by omega)) (by decide) rfl rfl ?_
        refine Ev.if_eq (tgt := 30) dX4_listenerBits_21 rfl (fun c21 => ?_) (fun c21 => ?_)
        · skip
          refine Ev.iinc2 dX4_listenerBits_30 (by unfold ev_in; omega) ?_
          refine Ev.goto (tgt := 4) dX4_listenerBits_33 rfl ?_
          have := ih (k + 1) (by omega)
          rw [show lbr σ (k + 1) = (if σ (1000 + 100 * (k : Int) + 9) = 0 then lbr σ k else ev_or (lbr σ k) (ev_shl 1 (k : Int))) from rfl] at this
          first | rw [if_pos (by omega)] at this | rw [if_neg (by omega)] at this
          exact this
        · skip
          refine Ev.iload_n dX4_listenerBits_24 rfl ?_
          refine Ev.iconst dX4_listenerBits_25 ⟨by decide, by decide⟩ ?_
          refine Ev.iload_n dX4_listenerBits_26 rfl ?_
          refine Ev.ishl dX4_listenerBits_27 ?_
          refine Ev.ior dX4_listenerBits_28 ?_
          refine Ev.istore1 rfl dX4_listenerBits_29 ?_
          refine Ev.iinc2 dX4_listenerBits_30 (by unfold ev_in; omega) ?_
          refine Ev.goto (tgt := 4) dX4_listenerBits_33 rfl ?_
          have := ih (k + 1) (by omega)
          rw [show lbr σ (k + 1) = (if σ (1000 + 100 * (k : Int) + 9) = 0 then lbr σ k else ev_or (lbr σ k) (ev_shl 1 (k : Int))) from rfl] at this
          first | rw [if_pos (by omega)] at this | rw [if_neg (by omega)] at this
          exact this
  refine Ev.iconst dX4_listenerBits_0 ⟨by decide, by decide⟩ ?_
  refine Ev.istore1 rfl dX4_listenerBits_1 ?_
  refine Ev.iconst dX4_listenerBits_2 ⟨by decide, by decide⟩ ?_
  refine Ev.istore2 rfl dX4_listenerBits_3 ?_
  exact loop (σ 4).toNat 0 (by omega)
theorem s_X4_someoneAsks {σ : ev_M} (h4 : 0 ≤ σ 4) (h4' : σ 4 ≤ 6) : Ev jX4_someoneAsks layX 0 [some (rv 0), none] [] σ (fun r σ' => ((r = 1 ∧ ∃ i : Nat, (i : Int) < σ 4 ∧ σ (1000 + 100 * (i : Int) + 8) ≠ 0) ∨ (r = 0 ∧ ∀ i : Nat, (i : Int) < σ 4 → σ (1000 + 100 * (i : Int) + 8) = 0)) ∧ σ' = σ) := by
  have loop : ∀ (j k : Nat), (k : Int) + j = σ 4 → (∀ i : Nat, i < k → σ (1000 + 100 * (i : Int) + 8) = 0) → Ev jX4_someoneAsks layX 2 [some (rv 0), some (iv (k : Int))] [] σ (fun r σ' => ((r = 1 ∧ ∃ i : Nat, (i : Int) < σ 4 ∧ σ (1000 + 100 * (i : Int) + 8) ≠ 0) ∨ (r = 0 ∧ ∀ i : Nat, (i : Int) < σ 4 → σ (1000 + 100 * (i : Int) + 8) = 0)) ∧ σ' = σ) := by
    intro j
    induction j with
    | zero =>
      intro k hk hz
      refine Ev.iload_n dX4_someoneAsks_2 rfl ?_
      refine Ev.aload_n dX4_someoneAsks_3 rfl ?_
      refine Ev.geti (4) dX4_someoneAsks_4 fl_X4_63 lx_0 (by decide) rfl rfl ?_
      refine Ev.icmp_ge (tgt := 30) dX4_someoneAsks_7 rfl (fun c7 => ?_) (fun c7 => ?_)
      · skip
        refine Ev.iconst dX4_someoneAsks_30 ⟨by decide, by decide⟩ ?_
        refine Ev.bool rfl dX4_someoneAsks_31 (by omega) ?_
        exact ⟨Or.inr ⟨rfl, fun i hi => hz i (by omega)⟩, rfl⟩
      · skip
        exact absurd c7 (by omega)
    | succ j ih =>
      intro k hk hz
      refine Ev.iload_n dX4_someoneAsks_2 rfl ?_
      refine Ev.aload_n dX4_someoneAsks_3 rfl ?_
      refine Ev.geti (4) dX4_someoneAsks_4 fl_X4_63 lx_0 (by decide) rfl rfl ?_
      refine Ev.icmp_ge (tgt := 30) dX4_someoneAsks_7 rfl (fun c7 => ?_) (fun c7 => ?_)
      · skip
        exact absurd c7 (by omega)
      · skip
        refine Ev.aload_n dX4_someoneAsks_10 rfl ?_
        refine Ev.getr (50) dX4_someoneAsks_11 fl_X4_18 lx_0 (by decide) rfl rfl ?_
        refine Ev.iload_n dX4_someoneAsks_14 rfl ?_
        refine Ev.aald dX4_someoneAsks_15 lx_50 (by omega) (by omega) ?_
        refine Ev.geti (_ + 8) dX4_someoneAsks_16 fl_X4_125 (lx_dev (by omega) (by omega)) (by decide) rfl rfl ?_
        refine Ev.if_eq (tgt := 24) dX4_someoneAsks_19 rfl (fun c19 => ?_) (fun c19 => ?_)
        · skip
          refine Ev.iinc1 dX4_someoneAsks_24 (by unfold ev_in; omega) ?_
          refine Ev.goto (tgt := 2) dX4_someoneAsks_27 rfl ?_
          refine ih (k + 1) (by omega) (fun i hi => ?_)
          by_cases hik : i = k
          · rw [hik]; exact c19
          · exact hz i (by omega)
        · skip
          refine Ev.iconst dX4_someoneAsks_22 ⟨by decide, by decide⟩ ?_
          refine Ev.bool rfl dX4_someoneAsks_23 (by omega) ?_
          exact ⟨Or.inl ⟨rfl, k, by omega, c19⟩, rfl⟩
  refine Ev.iconst dX4_someoneAsks_0 ⟨by decide, by decide⟩ ?_
  refine Ev.istore1 rfl dX4_someoneAsks_1 ?_
  exact loop (σ 4).toNat 0 (by omega) (fun i hi => absurd hi (by omega))
def x_pc (σ : ev_M) : ev_M := if 0 ≤ σ 7 ∧ σ 7 < σ 4 ∧ σ 7 ≠ σ 6 ∧ σ (1000 + 100 * σ 7 + 2) = 2 then ev_up (ev_up (ev_up σ 6 (σ 7)) 7 (-4)) 46 (σ 46 + 1) else σ
theorem s_X4_passCharge {σ : ev_M} (h4' : σ 4 ≤ 6) (hs : ev_in (σ 46 + 1)) : Ev jX4_passCharge layX 0 [some (rv 0)] [] σ (fun _ σ' => σ' = x_pc σ) := by
  unfold ev_in at hs
  refine Ev.aload_n dX4_passCharge_0 rfl ?_
  refine Ev.aload_n dX4_passCharge_1 rfl ?_
  refine Ev.geti (7) dX4_passCharge_2 fl_X4_89 lx_0 (by decide) rfl rfl ?_
  refine Ev.Vi1 (I' := jX4_isDevice) ml_X4_102 dX4_passCharge_5 cyX4_isDevice lx_0 rfl (by decide) ⟨by decide, by decide⟩ (by simp) rfl rfl (s_X4_isDevice) (fun r σ' hr5 hq => ?_)
  obtain ⟨hq1, hq⟩ := hq
  replace hq := hq.symm
  subst hq
  refine Ev.if_eq (tgt := 63) dX4_passCharge_8 rfl (fun c8 => ?_) (fun c8 => ?_)
  · skip
    refine Ev.vret dX4_passCharge_63 rfl ?_
    unfold x_pc
    first | rw [if_pos (by omega)] | rw [if_neg (by omega)]
  · skip
    refine Ev.aload_n dX4_passCharge_11 rfl ?_
    refine Ev.geti (7) dX4_passCharge_12 fl_X4_89 lx_0 (by decide) rfl rfl ?_
    refine Ev.aload_n dX4_passCharge_15 rfl ?_
    refine Ev.geti (6) dX4_passCharge_16 fl_X4_79 lx_0 (by decide) rfl rfl ?_
    refine Ev.icmp_eq (tgt := 63) dX4_passCharge_19 rfl (fun c19 => ?_) (fun c19 => ?_)
    · skip
      refine Ev.vret dX4_passCharge_63 rfl ?_
      unfold x_pc
      first | rw [if_pos (by omega)] | rw [if_neg (by omega)]
    · skip
      refine Ev.aload_n dX4_passCharge_22 rfl ?_
      refine Ev.getr (50) dX4_passCharge_23 fl_X4_18 lx_0 (by decide) rfl rfl ?_
      refine Ev.aload_n dX4_passCharge_26 rfl ?_
      refine Ev.geti (7) dX4_passCharge_27 fl_X4_89 lx_0 (by decide) rfl rfl ?_
      refine Ev.aald dX4_passCharge_30 lx_50 (by omega) (by omega) ?_
      refine Ev.geti (_ + 2) dX4_passCharge_31 fl_X4_251 (lx_dev (by omega) (by omega)) (by decide) rfl rfl ?_
      refine Ev.iconst dX4_passCharge_34 ⟨by decide, by decide⟩ ?_
      refine Ev.icmp_ne (tgt := 63) dX4_passCharge_35 rfl (fun c35 => ?_) (fun c35 => ?_)
      · skip
        refine Ev.vret dX4_passCharge_63 rfl ?_
        unfold x_pc
        first | rw [if_pos (by omega)] | rw [if_neg (by omega)]
      · skip
        refine Ev.aload_n dX4_passCharge_38 rfl ?_
        refine Ev.aload_n dX4_passCharge_39 rfl ?_
        refine Ev.geti (7) dX4_passCharge_40 fl_X4_89 lx_0 (by decide) rfl rfl ?_
        refine Ev.puti (6) dX4_passCharge_43 fl_X4_79 ft_4_6 lx_0 (by decide) rfl rfl ?_
        refine Ev.aload_n dX4_passCharge_46 rfl ?_
        refine Ev.bipush dX4_passCharge_47 ⟨by decide, by decide⟩ (by decide) ?_
        refine Ev.puti (7) dX4_passCharge_49 fl_X4_89 ft_4_7 lx_0 (by decide) rfl rfl ?_
        refine Ev.aload_n dX4_passCharge_52 rfl ?_
        refine Ev.getr (40) dX4_passCharge_53 fl_X4_30 lx_0 (by decide) rfl rfl ?_
        refine Ev.bipush dX4_passCharge_56 ⟨by decide, by decide⟩ (by decide) ?_
        refine Ev.dup2 dX4_passCharge_58 ?_
        refine Ev.ialdn (46) dX4_passCharge_59 lx_40 (Or.inl rfl) (by decide) (by decide) rfl ?_
        try simp (disch := omega) only [ev_up_ne, ev_up_eqs]
        refine Ev.iconst dX4_passCharge_60 ⟨by decide, by decide⟩ ?_
        refine Ev.iadd dX4_passCharge_61 (by unfold ev_in; omega) ?_
        refine Ev.iastn (46) dX4_passCharge_62 lx_40 (by decide) (by decide) rfl ?_
        refine Ev.vret dX4_passCharge_63 rfl ?_
        unfold x_pc
        first | rw [if_pos (by omega)] | rw [if_neg (by omega)]
def x_tr0 (i : Int) (σ : ev_M) : ev_M := x_btr i (σ 5) (ev_up σ 47 (σ 47 + 1))
def x_tr1 (i : Int) (σ : ev_M) : ev_M := if x_tr0 i σ (1000 + 100 * i + 17) ≠ -4 ∧ x_tr0 i σ (1000 + 100 * i + 17) ≤ σ 5 then ev_up (x_come i (x_tr0 i σ)) 43 (σ 43 + 1) else x_tr0 i σ
theorem x_btr_o {i n m : Int} {σ : ev_M} (h0 : 0 ≤ i) (h1 : i < 6) (hm : m < 1000) : x_btr i n σ m = σ m := by
  unfold x_btr
  split
  · rw [ev_up_ne (by omega), ev_up_ne (by omega)]
  · rw [ev_up_ne (by omega)]
theorem XI.btr {b i n : Int} {σ : ev_M} (h : XI b σ) (h0 : 0 ≤ i) (h1 : i < 6) (hn0 : 0 ≤ n) (hn : n ≤ b) : XI b (x_btr i n σ) := by
  have a16 := h.d16 h0 h1
  have a6 := h.d6 h0 h1
  have h' := h.u16 h0 h1 (v := if 999 < σ (1000 + 100 * i + 16) + 1 then 999 else σ (1000 + 100 * i + 16) + 1) (by split <;> omega) (by split <;> omega)
  by_cases hk : σ (1000 + 100 * i + 2) = 1
  · unfold x_btr
    rw [if_pos hk]
    exact h'.u17 h0 h1 (by omega) (by omega)
  · unfold x_btr
    rw [if_neg hk]
    exact h'
theorem XI.tr0 {b i : Int} {σ : ev_M} (h : XI b σ) (h0 : 0 ≤ i) (h1 : i < 6) : XI (b + 1) (x_tr0 i σ) := by
  have a := h.sum (n := 47) (by decide)
  have a5 := h.s5
  exact ((h.mono (show b ≤ b + 1 by omega)).usum (by decide) (by omega) (by omega)).btr h0 h1 (by omega) (by omega)
theorem x_tr0_o {i n : Int} {σ : ev_M} (h0 : 0 ≤ i) (h1 : i < 6) (hn : n < 1000) (h47 : n ≠ 47) : x_tr0 i σ n = σ n := by unfold x_tr0; rw [x_btr_o h0 h1 hn, ev_up_ne h47]
theorem XI.tr1 {b i : Int} {σ : ev_M} (h : XI b σ) (h0 : 0 ≤ i) (h1 : i < 6) : XI (b + 1) (x_tr1 i σ) := by
  have a := h.sum (n := 43) (by decide)
  have h' := h.tr0 h0 h1
  unfold x_tr1
  split
  · exact (h'.come h0 h1).usum (by decide) (by omega) (by omega)
  · exact h'
theorem x_tr1_o {i n : Int} {σ : ev_M} (h0 : 0 ≤ i) (h1 : i < 6) (hn : n < 1000) (h47 : n ≠ 47) (h43 : n ≠ 43) : x_tr1 i σ n = σ n := by
  unfold x_tr1
  split
  · rw [ev_up_ne h43, x_come_o h0 h1 hn, x_tr0_o h0 h1 hn h47]
  · exact x_tr0_o h0 h1 hn h47
theorem s_X4_triggerOne {b i : Int} {σ : ev_M} (h0 : 0 ≤ i) (h1 : i < 6) (hX : XI b σ) (hb : b ≤ 900000000) : Ev jX4_triggerOne layX 0 [some (rv 0), some (rv (1000 + 100 * i))] [] σ (fun _ σ' => σ' = x_tr1 i σ) := by
  have a47 := hX.sum (n := 47) (by decide)
  have a43 := hX.sum (n := 43) (by decide)
  have a5 := hX.s5
  have a6 := hX.d6 h0 h1
  have a16 := hX.d16 h0 h1
  have hT := hX.tr0 h0 h1
  have t16 := hT.d16 h0 h1
  have t3 := hT.d3 h0 h1
  have t43 := x_tr0_o (σ := σ) h0 h1 (n := 43) (by decide) (by decide)
  have t5 := x_tr0_o (σ := σ) h0 h1 (n := 5) (by decide) (by decide)
  refine Ev.aload_n dX4_triggerOne_0 rfl ?_
  refine Ev.getr (40) dX4_triggerOne_1 fl_X4_30 lx_0 (by decide) rfl rfl ?_
  refine Ev.bipush dX4_triggerOne_4 ⟨by decide, by decide⟩ (by decide) ?_
  refine Ev.dup2 dX4_triggerOne_6 ?_
  refine Ev.ialdn (47) dX4_triggerOne_7 lx_40 (Or.inl rfl) (by decide) (by decide) rfl ?_
  refine Ev.iconst dX4_triggerOne_8 ⟨by decide, by decide⟩ ?_
  refine Ev.iadd dX4_triggerOne_9 (by unfold ev_in; omega) ?_
  refine Ev.iastn (47) dX4_triggerOne_10 lx_40 (by decide) (by decide) rfl ?_
  refine Ev.aload_n dX4_triggerOne_11 rfl ?_
  refine Ev.aload_n dX4_triggerOne_12 rfl ?_
  refine Ev.geti (5) dX4_triggerOne_13 fl_X4_70 lx_0 (by decide) rfl rfl ?_
  try simp (disch := omega) only [ev_up_ne, ev_up_eqs, x_come_o]
  refine Ev.Vv1 (I' := jX2_beTriggered) ml_X4_248 dX4_triggerOne_16 cyX2_beTriggered (lx_dev (by omega) (by omega)) rfl (by decide) ⟨by decide, by decide⟩ (by simp) rfl rfl (s_X2_beTriggered h0 h1 (by unfold ev_in; simp (disch := omega) only [ev_up_ne]; omega) (by unfold ev_in; simp (disch := omega) only [ev_up_ne]; omega)) (fun σ' hq => ?_)
  subst hq
  rw [show x_btr i (σ 5) (ev_up σ 47 (σ 47 + 1)) = x_tr0 i σ from rfl]
  refine Ev.aload_n dX4_triggerOne_19 rfl ?_
  refine Ev.aload_n dX4_triggerOne_20 rfl ?_
  refine Ev.geti (5) dX4_triggerOne_21 fl_X4_70 lx_0 (by decide) rfl rfl ?_
  try simp (disch := omega) only [ev_up_ne, ev_up_eqs, x_come_o]
  refine Ev.Vi1 (I' := jX2_isDueBy) ml_X4_186 dX4_triggerOne_24 cyX2_isDueBy (lx_dev (by omega) (by omega)) rfl (by decide) ⟨by decide, by decide⟩ (by simp) rfl rfl (s_X2_isDueBy h0 h1) (fun r σ' hr24 hq => ?_)
  obtain ⟨hq1, hq⟩ := hq
  replace hq := hq.symm
  subst hq
  try simp (disch := omega) only [ev_up_ne, ev_up_eqs, x_come_o]
  refine Ev.if_eq (tgt := 44) dX4_triggerOne_27 rfl (fun c27 => ?_) (fun c27 => ?_)
  · skip
    refine Ev.vret dX4_triggerOne_44 rfl ?_
    unfold x_tr1
    first | (rw [if_pos (by omega), ← t43]) | rw [if_neg (by omega)]
  · skip
    refine Ev.aload_n dX4_triggerOne_30 rfl ?_
    refine Ev.Vv0 (I' := jX2_comeReading) ml_X4_189 dX4_triggerOne_31 cyX2_comeReading (lx_dev (by omega) (by omega)) rfl (by decide) ⟨by decide, by decide⟩ (by simp) rfl rfl (s_X2_comeReading h0 h1 (by omega) (by omega) (by omega) (by omega)) (fun σ' hq => ?_)
    subst hq
    refine Ev.aload_n dX4_triggerOne_34 rfl ?_
    refine Ev.getr (40) dX4_triggerOne_35 fl_X4_30 lx_0 (by decide) rfl rfl ?_
    refine Ev.iconst dX4_triggerOne_38 ⟨by decide, by decide⟩ ?_
    refine Ev.dup2 dX4_triggerOne_39 ?_
    refine Ev.ialdn (43) dX4_triggerOne_40 lx_40 (Or.inl rfl) (by decide) (by decide) rfl ?_
    try simp (disch := omega) only [ev_up_ne, ev_up_eqs, x_come_o]
    refine Ev.iconst dX4_triggerOne_41 ⟨by decide, by decide⟩ ?_
    refine Ev.iadd dX4_triggerOne_42 (by unfold ev_in; omega) ?_
    refine Ev.iastn (43) dX4_triggerOne_43 lx_40 (by decide) (by decide) rfl ?_
    refine Ev.vret dX4_triggerOne_44 rfl ?_
    unfold x_tr1
    first | (rw [if_pos (by omega), ← t43]) | rw [if_neg (by omega)]
def x_lst (c : Int) (i : Int) (σ : ev_M) : ev_M := if c = 1 then ev_up σ (1000 + 100 * i + 10) 0 else if c = 4 then x_clear i σ else if c = 5 then ev_up σ (1000 + 100 * i + 12) 1 else if c = 8 then x_tr1 i σ else σ
theorem s_X4_obeyAsListener {b c i : Int} {σ : ev_M} (h0 : 0 ≤ i) (h1 : i < 6) (hX : XI b σ) (hb : b ≤ 900000000) : Ev jX4_obeyAsListener layX 0 [some (rv 0), some (iv c), some (rv (1000 + 100 * i))] [] σ (fun _ σ' => σ' = x_lst c i σ) := by
  refine Ev.iload_n dX4_obeyAsListener_0 rfl ?_
  refine Ev.iconst dX4_obeyAsListener_1 ⟨by decide, by decide⟩ ?_
  refine Ev.icmp_ne (tgt := 13) dX4_obeyAsListener_2 rfl (fun c2 => ?_) (fun c2 => ?_)
  · skip
    refine Ev.iload_n dX4_obeyAsListener_13 rfl ?_
    refine Ev.iconst dX4_obeyAsListener_14 ⟨by decide, by decide⟩ ?_
    refine Ev.icmp_ne (tgt := 25) dX4_obeyAsListener_15 rfl (fun c15 => ?_) (fun c15 => ?_)
    · skip
      refine Ev.iload_n dX4_obeyAsListener_25 rfl ?_
      refine Ev.iconst dX4_obeyAsListener_26 ⟨by decide, by decide⟩ ?_
      refine Ev.icmp_ne (tgt := 38) dX4_obeyAsListener_27 rfl (fun c27 => ?_) (fun c27 => ?_)
      · skip
        refine Ev.iload_n dX4_obeyAsListener_38 rfl ?_
        refine Ev.bipush dX4_obeyAsListener_39 ⟨by decide, by decide⟩ (by decide) ?_
        refine Ev.icmp_ne (tgt := 49) dX4_obeyAsListener_41 rfl (fun c41 => ?_) (fun c41 => ?_)
        · skip
          refine Ev.vret dX4_obeyAsListener_49 rfl ?_
          unfold x_lst
          repeat (first | rw [if_pos (by omega)] | rw [if_neg (by omega)])
        · skip
          refine Ev.aload_n dX4_obeyAsListener_44 rfl ?_
          refine Ev.aload_n dX4_obeyAsListener_45 rfl ?_
          refine Ev.Vv1 (I' := jX4_triggerOne) ml_X4_244 dX4_obeyAsListener_46 cyX4_triggerOne lx_0 rfl (by decide) ⟨by decide, by decide⟩ (by simp) rfl rfl (s_X4_triggerOne h0 h1 hX hb) (fun σ' hq => ?_)
          subst hq
          refine Ev.vret dX4_obeyAsListener_49 rfl ?_
          unfold x_lst
          repeat (first | rw [if_pos (by omega)] | rw [if_neg (by omega)])
      · skip
        refine Ev.aload_n dX4_obeyAsListener_30 rfl ?_
        refine Ev.iconst dX4_obeyAsListener_31 ⟨by decide, by decide⟩ ?_
        refine Ev.putz (_ + 12) dX4_obeyAsListener_32 fl_X4_241 ft_2_12 (lx_dev (by omega) (by omega)) (by decide) rfl rfl (by omega) ?_
        refine Ev.goto (tgt := 49) dX4_obeyAsListener_35 rfl ?_
        refine Ev.vret dX4_obeyAsListener_49 rfl ?_
        unfold x_lst
        repeat (first | rw [if_pos (by omega)] | rw [if_neg (by omega)])
    · skip
      refine Ev.aload_n dX4_obeyAsListener_18 rfl ?_
      refine Ev.Vv0 (I' := jX2_clear) ml_X4_235 dX4_obeyAsListener_19 cyX2_clear (lx_dev (by omega) (by omega)) rfl (by decide) ⟨by decide, by decide⟩ (by simp) rfl rfl (s_X2_clear h0 h1) (fun σ' hq => ?_)
      subst hq
      refine Ev.goto (tgt := 49) dX4_obeyAsListener_22 rfl ?_
      refine Ev.vret dX4_obeyAsListener_49 rfl ?_
      unfold x_lst
      repeat (first | rw [if_pos (by omega)] | rw [if_neg (by omega)])
  · skip
    refine Ev.aload_n dX4_obeyAsListener_5 rfl ?_
    refine Ev.iconst dX4_obeyAsListener_6 ⟨by decide, by decide⟩ ?_
    refine Ev.putz (_ + 10) dX4_obeyAsListener_7 fl_X4_131 ft_2_10 (lx_dev (by omega) (by omega)) (by decide) rfl rfl (by omega) ?_
    refine Ev.goto (tgt := 49) dX4_obeyAsListener_10 rfl ?_
    refine Ev.vret dX4_obeyAsListener_49 rfl ?_
    unfold x_lst
    repeat (first | rw [if_pos (by omega)] | rw [if_neg (by omega)])
def x_oa (c : Int) (i : Int) (σ : ev_M) : ev_M := if c = 17 then ev_up σ (1000 + 100 * i + 11) 1 else if c = 20 then x_clear i σ else ev_up σ (1000 + 100 * i + 14) (-4)
theorem s_X4_obeyAsOneOfAll {c i : Int} {σ : ev_M} (h0 : 0 ≤ i) (h1 : i < 6) : Ev jX4_obeyAsOneOfAll layX 0 [some (rv 0), some (iv c), some (rv (1000 + 100 * i))] [] σ (fun _ σ' => σ' = x_oa c i σ) := by
  refine Ev.iload_n dX4_obeyAsOneOfAll_0 rfl ?_
  refine Ev.bipush dX4_obeyAsOneOfAll_1 ⟨by decide, by decide⟩ (by decide) ?_
  refine Ev.icmp_ne (tgt := 14) dX4_obeyAsOneOfAll_3 rfl (fun c3 => ?_) (fun c3 => ?_)
  · skip
    refine Ev.iload_n dX4_obeyAsOneOfAll_14 rfl ?_
    refine Ev.bipush dX4_obeyAsOneOfAll_15 ⟨by decide, by decide⟩ (by decide) ?_
    refine Ev.icmp_ne (tgt := 27) dX4_obeyAsOneOfAll_17 rfl (fun c17 => ?_) (fun c17 => ?_)
    · skip
      refine Ev.aload_n dX4_obeyAsOneOfAll_27 rfl ?_
      refine Ev.bipush dX4_obeyAsOneOfAll_28 ⟨by decide, by decide⟩ (by decide) ?_
      refine Ev.puti (_ + 14) dX4_obeyAsOneOfAll_30 fl_X4_238 ft_2_14 (lx_dev (by omega) (by omega)) (by decide) rfl rfl ?_
      refine Ev.vret dX4_obeyAsOneOfAll_33 rfl ?_
      unfold x_oa
      repeat (first | rw [if_pos (by omega)] | rw [if_neg (by omega)])
    · skip
      refine Ev.aload_n dX4_obeyAsOneOfAll_20 rfl ?_
      refine Ev.Vv0 (I' := jX2_clear) ml_X4_235 dX4_obeyAsOneOfAll_21 cyX2_clear (lx_dev (by omega) (by omega)) rfl (by decide) ⟨by decide, by decide⟩ (by simp) rfl rfl (s_X2_clear h0 h1) (fun σ' hq => ?_)
      subst hq
      refine Ev.goto (tgt := 33) dX4_obeyAsOneOfAll_24 rfl ?_
      refine Ev.vret dX4_obeyAsOneOfAll_33 rfl ?_
      unfold x_oa
      repeat (first | rw [if_pos (by omega)] | rw [if_neg (by omega)])
  · skip
    refine Ev.aload_n dX4_obeyAsOneOfAll_6 rfl ?_
    refine Ev.iconst dX4_obeyAsOneOfAll_7 ⟨by decide, by decide⟩ ?_
    refine Ev.putz (_ + 11) dX4_obeyAsOneOfAll_8 fl_X4_128 ft_2_11 (lx_dev (by omega) (by omega)) (by decide) rfl rfl (by omega) ?_
    refine Ev.goto (tgt := 33) dX4_obeyAsOneOfAll_11 rfl ?_
    refine Ev.vret dX4_obeyAsOneOfAll_33 rfl ?_
    unfold x_oa
    repeat (first | rw [if_pos (by omega)] | rw [if_neg (by omega)])
