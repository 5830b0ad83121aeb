/-! the reference: small methods -/
theorem Ev.nm {I : ev_I} {lay : ev_Y} {pc : Nat} {L : List (Option ev_V)} {S : List ev_V} {σ : ev_M} {Q : Int → ev_M → Prop} (k : ∀ σ', σ' = σ → Ev I lay pc L S σ' Q) : Ev I lay pc L S σ Q := k σ rfl
theorem Ev.okM {I : ev_I} {lay : ev_Y} {pc : Nat} {L : List (Option ev_V)} {S : List ev_V} {σ : ev_M} {Q : Int → ev_M → Prop} (k : (∀ n, ev_in (σ n)) → Ev I lay pc L S σ Q) : Ev I lay pc L S σ Q :=
  fun p l e s m args below meth c E ls H locs X hL hS hW hV => k hW.2.2.2.2.2.1 p l e s m args below meth c E ls H locs X hL hS hW hV
theorem Ev.okL {I : ev_I} {lay : ev_Y} {pc : Nat} {L : List (Option ev_V)} {S : List ev_V} {σ : ev_M} {Q : Int → ev_M → Prop} (k : (∀ i, some (iv i) ∈ L → ev_in i) → Ev I lay pc L S σ Q) : Ev I lay pc L S σ Q :=
  fun p l e s m args below meth c E ls H locs X hL hS hW hV => k (fun i hi => hL.2.2.2.2 (iv i) hi i rfl) p l e s m args below meth c E ls H locs X hL hS hW hV
theorem Ev.okS {I : ev_I} {lay : ev_Y} {pc : Nat} {L : List (Option ev_V)} {S : List ev_V} {σ : ev_M} {Q : Int → ev_M → Prop} (k : (∀ i, iv i ∈ S → ev_in i) → Ev I lay pc L S σ Q) : Ev I lay pc L S σ Q :=
  fun p l e s m args below meth c E ls H locs X hL hS hW hV => k (fun i hi => hS (iv i) hi i rfl) p l e s m args below meth c E ls H locs X hL hS hW hV
theorem Ev.mono {I : ev_I} {lay : ev_Y} {pc : Nat} {L : List (Option ev_V)} {S : List ev_V} {σ : ev_M} {Q Q2 : Int → ev_M → Prop} (h : Ev I lay pc L S σ Q) (hq : ∀ r σ', Q r σ' → Q2 r σ') : Ev I lay pc L S σ Q2 := by
  intro p l e s m args below meth c E ls H locs X hL hS hW hV T hT hX
  obtain ⟨t, a1, o, b1, b2, b3, b4⟩ := h p l e s m args below meth c E ls H locs X hL hS hW hV T hT hX
  refine ⟨t, a1, o, b1, b2, ?_, b4⟩
  unfold ev_post at b3 ⊢
  split at b3
  · next h1 =>
    rw [if_pos h1]
    obtain ⟨⟨u, c1, c2, c3⟩, c4⟩ := b3
    exact ⟨⟨u, c1, hq _ _ c2, c3⟩, c4⟩
  · next h1 =>
    rw [if_neg h1]
    obtain ⟨⟨r, u, c1, ⟨i, c5, c6, c2⟩, c3⟩, c4⟩ := b3
    exact ⟨⟨r, u, c1, ⟨i, c5, c6, hq _ _ c2⟩, c3⟩, c4⟩
theorem ev_up_eqs {σ : ev_M} {n v k : Int} (h : k = n) : ev_up σ n v k = v := by rw [h]; exact ev_up_eq
theorem Ev.ialdn {I : ev_I} {lay : ev_Y} {pc : Nat} {L : List (Option ev_V)} {S : List ev_V} {σ : ev_M} {Q : Int → ev_M → Prop} {a o : Int} {sz ci kd : Nat} (n : Int) (hd : decode I.2.1 pc = .ok (.iaload, 1)) (hm : (o, sz, kd, ci) ∈ lay) (hkd : kd = 1 ∨ kd = 4) (h0 : 0 ≤ a) (h1 : a < (sz : Int)) (hn : o + a = n) (kk : Ev I lay (pc + 1) L (iv (σ n) :: S) σ Q) : Ev I lay pc L (iv a :: rv o :: S) σ Q := Ev.iald hd hm hkd h0 h1 (by rw [hn]; exact kk)
theorem Ev.iastn {I : ev_I} {lay : ev_Y} {pc : Nat} {L : List (Option ev_V)} {S : List ev_V} {σ : ev_M} {Q : Int → ev_M → Prop} {a b o : Int} {sz ci : Nat} (n : Int) (hd : decode I.2.1 pc = .ok (.iastore, 1)) (hm : (o, sz, 1, ci) ∈ lay) (h0 : 0 ≤ a) (h1 : a < (sz : Int)) (hn : o + a = n) (kk : Ev I lay (pc + 1) L S (ev_up σ n b) Q) : Ev I lay pc L (iv b :: iv a :: rv o :: S) σ Q := Ev.iast hd hm h0 h1 (by rw [hn]; exact kk)
/-- a loop over devices: the body's transformer, for 0, 1, .. -/
def it (f : Int → ev_M → ev_M) (τ : ev_M) : Nat → ev_M
  | 0 => τ
  | k + 1 => f (k : Int) (it f τ k)
theorem it_at {f : Int → ev_M → ev_M} {τ : ev_M} {n : Int} (h : ∀ (k : Nat) (σ : ev_M), f (k : Int) σ n = σ n) : ∀ k, it f τ k n = τ n
  | 0 => rfl
  | k + 1 => by show f (k : Int) (it f τ k) n = τ n; rw [h, it_at h k]
theorem s_X5_isIn {v lo hi : Int} {σ : ev_M} : Ev jX5_isIn layM 0 [some (iv v), some (iv lo), some (iv hi)] [] σ (fun r σ' => r = (if lo ≤ v ∧ v ≤ hi then 1 else 0) ∧ σ' = σ) := by
  refine Ev.iload_n dX5_isIn_0 rfl ?_
  refine Ev.iload_n dX5_isIn_1 rfl ?_
  refine Ev.icmp_lt (tgt := 14) dX5_isIn_2 rfl (fun c2 => ?_) (fun c2 => ?_)
  · skip
    refine Ev.iconst dX5_isIn_14 ⟨by decide, by decide⟩ ?_
    refine Ev.bool rfl dX5_isIn_15 (by omega) ?_
    refine ⟨?_, rfl⟩
    split <;> omega
  · skip
    refine Ev.iload_n dX5_isIn_5 rfl ?_
    refine Ev.iload_n dX5_isIn_6 rfl ?_
    refine Ev.icmp_gt (tgt := 14) dX5_isIn_7 rfl (fun c7 => ?_) (fun c7 => ?_)
    · skip
      refine Ev.iconst dX5_isIn_14 ⟨by decide, by decide⟩ ?_
      refine Ev.bool rfl dX5_isIn_15 (by omega) ?_
      refine ⟨?_, rfl⟩
      split <;> omega
    · skip
      refine Ev.iconst dX5_isIn_10 ⟨by decide, by decide⟩ ?_
      refine Ev.goto (tgt := 15) dX5_isIn_11 rfl ?_
      refine Ev.bool rfl dX5_isIn_15 (by omega) ?_
      refine ⟨?_, rfl⟩
      split <;> omega
theorem s_X5_of {d w : Int} {σ : ev_M} (hd0 : 0 ≤ d) (hd : d < 6) (hw0 : 0 ≤ w) (hw : w < 18) : Ev jX5_of layM 0 [some (rv 0), some (iv d), some (iv w)] [] σ (fun r σ' => r = σ (300 + (18 * d + w)) ∧ σ' = σ) := by
  refine Ev.aload_n dX5_of_0 rfl ?_
  refine Ev.getr (300) dX5_of_1 fl_X5_13 lm_0 (by decide) rfl rfl ?_
  refine Ev.bipush dX5_of_4 ⟨by decide, by decide⟩ (by decide) ?_
  refine Ev.iload_n dX5_of_6 rfl ?_
  refine Ev.imul dX5_of_7 (by unfold ev_in; omega) ?_
  refine Ev.iload_n dX5_of_8 rfl ?_
  refine Ev.iadd dX5_of_9 (by unfold ev_in; omega) ?_
  refine Ev.iald dX5_of_10 lm_300 (Or.inl rfl) (by omega) (by omega) ?_
  refine Ev.int rfl dX5_of_11 ?_
  exact ⟨rfl, rfl⟩
theorem s_X5_puts {d w v : Int} {σ : ev_M} (hd0 : 0 ≤ d) (hd : d < 6) (hw0 : 0 ≤ w) (hw : w < 18) : Ev jX5_puts layM 0 [some (rv 0), some (iv d), some (iv w), some (iv v)] [] σ (fun _ σ' => σ' = ev_up σ (300 + (18 * d + w)) v) := by
  refine Ev.aload_n dX5_puts_0 rfl ?_
  refine Ev.getr (300) dX5_puts_1 fl_X5_13 lm_0 (by decide) rfl rfl ?_
  refine Ev.bipush dX5_puts_4 ⟨by decide, by decide⟩ (by decide) ?_
  refine Ev.iload_n dX5_puts_6 rfl ?_
  refine Ev.imul dX5_puts_7 (by unfold ev_in; omega) ?_
  refine Ev.iload_n dX5_puts_8 rfl ?_
  refine Ev.iadd dX5_puts_9 (by unfold ev_in; omega) ?_
  refine Ev.iload_n dX5_puts_10 rfl ?_
  refine Ev.iast dX5_puts_11 lm_300 (by omega) (by omega) ?_
  refine Ev.vret dX5_puts_12 rfl ?_
  rfl
theorem s_X5_letterAt {p : Int} {σ : ev_M} (hp : 0 ≤ p) (hl : σ 0 ≤ 200) : Ev jX5_letterAt layM 0 [some (rv 0), some (iv p)] [] σ (fun r σ' => r = (if p < σ 0 then σ (100 + p) else 0) ∧ σ' = σ) := by
  refine Ev.iload_n dX5_letterAt_0 rfl ?_
  refine Ev.aload_n dX5_letterAt_1 rfl ?_
  refine Ev.geti (0) dX5_letterAt_2 fl_X5_69 lm_0 (by decide) rfl rfl ?_
  refine Ev.icmp_ge (tgt := 17) dX5_letterAt_5 rfl (fun c5 => ?_) (fun c5 => ?_)
  · skip
    refine Ev.iconst dX5_letterAt_17 ⟨by decide, by decide⟩ ?_
    refine Ev.int rfl dX5_letterAt_18 ?_
    refine ⟨?_, rfl⟩
    split <;> first | rfl | omega
  · skip
    refine Ev.aload_n dX5_letterAt_8 rfl ?_
    refine Ev.getr (100) dX5_letterAt_9 fl_X5_7 lm_0 (by decide) rfl rfl ?_
    refine Ev.iload_n dX5_letterAt_12 rfl ?_
    refine Ev.iald dX5_letterAt_13 lm_100 (Or.inl rfl) (by omega) (by omega) ?_
    refine Ev.goto (tgt := 18) dX5_letterAt_14 rfl ?_
    refine Ev.int rfl dX5_letterAt_18 ?_
    refine ⟨?_, rfl⟩
    split <;> first | rfl | omega
theorem s_X5_highest {w : Int} {σ : ev_M} : Ev jX5_highest layM 0 [some (iv w)] [] σ (fun r σ' => r = (if w = 0 then 2 else if w = 1 then 30 else if w = 2 then 31 else if w = 3 then 9 else 60) ∧ σ' = σ) := by
  refine Ev.iload_n dX5_highest_0 rfl ?_
  refine Ev.if_ne (tgt := 8) dX5_highest_1 rfl (fun c1 => ?_) (fun c1 => ?_)
  · skip
    refine Ev.iload_n dX5_highest_8 rfl ?_
    refine Ev.iconst dX5_highest_9 ⟨by decide, by decide⟩ ?_
    refine Ev.icmp_ne (tgt := 18) dX5_highest_10 rfl (fun c10 => ?_) (fun c10 => ?_)
    · skip
      refine Ev.iload_n dX5_highest_18 rfl ?_
      refine Ev.iconst dX5_highest_19 ⟨by decide, by decide⟩ ?_
      refine Ev.icmp_ne (tgt := 28) dX5_highest_20 rfl (fun c20 => ?_) (fun c20 => ?_)
      · skip
        refine Ev.iload_n dX5_highest_28 rfl ?_
        refine Ev.iconst dX5_highest_29 ⟨by decide, by decide⟩ ?_
        refine Ev.icmp_ne (tgt := 38) dX5_highest_30 rfl (fun c30 => ?_) (fun c30 => ?_)
        · skip
          refine Ev.bipush dX5_highest_38 ⟨by decide, by decide⟩ (by decide) ?_
          refine Ev.int rfl dX5_highest_40 ?_
          refine ⟨?_, rfl⟩
          split <;> (try split) <;> (try split) <;> (try split) <;> omega
        · skip
          refine Ev.bipush dX5_highest_33 ⟨by decide, by decide⟩ (by decide) ?_
          refine Ev.goto (tgt := 40) dX5_highest_35 rfl ?_
          refine Ev.int rfl dX5_highest_40 ?_
          refine ⟨?_, rfl⟩
          split <;> (try split) <;> (try split) <;> (try split) <;> omega
      · skip
        refine Ev.bipush dX5_highest_23 ⟨by decide, by decide⟩ (by decide) ?_
        refine Ev.goto (tgt := 40) dX5_highest_25 rfl ?_
        refine Ev.int rfl dX5_highest_40 ?_
        refine ⟨?_, rfl⟩
        split <;> (try split) <;> (try split) <;> (try split) <;> omega
    · skip
      refine Ev.bipush dX5_highest_13 ⟨by decide, by decide⟩ (by decide) ?_
      refine Ev.goto (tgt := 40) dX5_highest_15 rfl ?_
      refine Ev.int rfl dX5_highest_40 ?_
      refine ⟨?_, rfl⟩
      split <;> (try split) <;> (try split) <;> (try split) <;> omega
  · skip
    refine Ev.iconst dX5_highest_4 ⟨by decide, by decide⟩ ?_
    refine Ev.goto (tgt := 40) dX5_highest_5 rfl ?_
    refine Ev.int rfl dX5_highest_40 ?_
    refine ⟨?_, rfl⟩
    split <;> (try split) <;> (try split) <;> (try split) <;> omega
theorem s_X5_wipe {σ : ev_M} : Ev jX5_wipe layM 0 [some (rv 0), none] [] σ (fun r σ' => r = σ 0 ∧ σ' = ev_up σ 0 0) := by
  refine Ev.aload_n dX5_wipe_0 rfl ?_
  refine Ev.geti (0) dX5_wipe_1 fl_X5_69 lm_0 (by decide) rfl rfl ?_
  refine Ev.istore1 rfl dX5_wipe_4 ?_
  refine Ev.aload_n dX5_wipe_5 rfl ?_
  refine Ev.iconst dX5_wipe_6 ⟨by decide, by decide⟩ ?_
  refine Ev.puti (0) dX5_wipe_7 fl_X5_69 ft_5_0 lm_0 (by decide) rfl rfl ?_
  refine Ev.iload_n dX5_wipe_10 rfl ?_
  refine Ev.int rfl dX5_wipe_11 ?_
  exact ⟨rfl, rfl⟩
theorem s_X5_write {a : Int} {σ : ev_M} (h0 : 0 ≤ σ 0) (h1 : σ 0 ≤ 200) : Ev jX5_write layM 0 [some (rv 0), some (iv a)] [] σ (fun r σ' => if a < 32 ∨ 126 < a then r = -1 ∧ σ' = σ else if σ 0 = 200 then r = -3 ∧ σ' = σ else r = σ 0 + 1 ∧ σ' = ev_up (ev_up σ (100 + σ 0) a) 0 (σ 0 + 1)) := by
  refine Ev.iload_n dX5_write_0 rfl ?_
  refine Ev.bipush dX5_write_1 ⟨by decide, by decide⟩ (by decide) ?_
  refine Ev.icmp_lt (tgt := 12) dX5_write_3 rfl (fun c3 => ?_) (fun c3 => ?_)
  · skip
    refine Ev.iconst dX5_write_12 ⟨by decide, by decide⟩ ?_
    refine Ev.int rfl dX5_write_13 ?_
    first | (rw [if_pos (by omega)]; exact ⟨rfl, rfl⟩) | (rw [if_neg (by omega), if_pos (by omega)]; exact ⟨rfl, rfl⟩) | (rw [if_neg (by omega), if_neg (by omega)]; exact ⟨rfl, rfl⟩)
  · skip
    refine Ev.iload_n dX5_write_6 rfl ?_
    refine Ev.bipush dX5_write_7 ⟨by decide, by decide⟩ (by decide) ?_
    refine Ev.icmp_le (tgt := 14) dX5_write_9 rfl (fun c9 => ?_) (fun c9 => ?_)
    · skip
      refine Ev.aload_n dX5_write_14 rfl ?_
      refine Ev.geti (0) dX5_write_15 fl_X5_69 lm_0 (by decide) rfl rfl ?_
      refine Ev.sipush dX5_write_18 ⟨by decide, by decide⟩ (by decide) ?_
      refine Ev.icmp_ne (tgt := 27) dX5_write_21 rfl (fun c21 => ?_) (fun c21 => ?_)
      · skip
        refine Ev.aload_n dX5_write_27 rfl ?_
        refine Ev.getr (100) dX5_write_28 fl_X5_7 lm_0 (by decide) rfl rfl ?_
        refine Ev.aload_n dX5_write_31 rfl ?_
        refine Ev.geti (0) dX5_write_32 fl_X5_69 lm_0 (by decide) rfl rfl ?_
        refine Ev.iload_n dX5_write_35 rfl ?_
        refine Ev.iast dX5_write_36 lm_100 (by omega) (by omega) ?_
        refine Ev.aload_n dX5_write_37 rfl ?_
        refine Ev.dup dX5_write_38 ?_
        refine Ev.geti (0) dX5_write_39 fl_X5_69 lm_0 (by decide) rfl rfl ?_
        try simp (disch := omega) only [ev_up_ne, ev_up_eqs]
        refine Ev.iconst dX5_write_42 ⟨by decide, by decide⟩ ?_
        refine Ev.iadd dX5_write_43 (by unfold ev_in; omega) ?_
        refine Ev.puti (0) dX5_write_44 fl_X5_69 ft_5_0 lm_0 (by decide) rfl rfl ?_
        refine Ev.aload_n dX5_write_47 rfl ?_
        refine Ev.geti (0) dX5_write_48 fl_X5_69 lm_0 (by decide) rfl rfl ?_
        try simp (disch := omega) only [ev_up_ne, ev_up_eqs]
        refine Ev.int rfl dX5_write_51 ?_
        first | (rw [if_pos (by omega)]; exact ⟨rfl, rfl⟩) | (rw [if_neg (by omega), if_pos (by omega)]; exact ⟨rfl, rfl⟩) | (rw [if_neg (by omega), if_neg (by omega)]; exact ⟨rfl, rfl⟩)
      · skip
        refine Ev.bipush dX5_write_24 ⟨by decide, by decide⟩ (by decide) ?_
        refine Ev.int rfl dX5_write_26 ?_
        first | (rw [if_pos (by omega)]; exact ⟨rfl, rfl⟩) | (rw [if_neg (by omega), if_pos (by omega)]; exact ⟨rfl, rfl⟩) | (rw [if_neg (by omega), if_neg (by omega)]; exact ⟨rfl, rfl⟩)
    · skip
      refine Ev.iconst dX5_write_12 ⟨by decide, by decide⟩ ?_
      refine Ev.int rfl dX5_write_13 ?_
      first | (rw [if_pos (by omega)]; exact ⟨rfl, rfl⟩) | (rw [if_neg (by omega), if_pos (by omega)]; exact ⟨rfl, rfl⟩) | (rw [if_neg (by omega), if_neg (by omega)]; exact ⟨rfl, rfl⟩)
def m_clears (d : Int) (τ : ev_M) : ev_M := ev_up (ev_up (ev_up (ev_up (ev_up τ (300 + (18 * d + 9)) 0) (300 + (18 * d + 10)) 0) (300 + (18 * d + 14)) (-4)) (300 + (18 * d + 15)) 0) (300 + (18 * d + 16)) 0
theorem s_X5_clears {d : Int} {σ : ev_M} (hd0 : 0 ≤ d) (hd : d < 6) : Ev jX5_clears layM 0 [some (rv 0), some (iv d)] [] σ (fun _ σ' => σ' = m_clears d σ) := by
  refine Ev.aload_n dX5_clears_0 rfl ?_
  refine Ev.iload_n dX5_clears_1 rfl ?_
  refine Ev.bipush dX5_clears_2 ⟨by decide, by decide⟩ (by decide) ?_
  refine Ev.iconst dX5_clears_4 ⟨by decide, by decide⟩ ?_
  refine Ev.Vv3 (I' := jX5_puts) ml_X5_47 dX5_clears_5 cyX5_puts lm_0 rfl (by decide) ⟨by decide, by decide⟩ (by simp) rfl rfl (s_X5_puts hd0 hd (by decide) (by decide)) (fun σ' hq => ?_)
  subst hq
  refine Ev.aload_n dX5_clears_8 rfl ?_
  refine Ev.iload_n dX5_clears_9 rfl ?_
  refine Ev.bipush dX5_clears_10 ⟨by decide, by decide⟩ (by decide) ?_
  refine Ev.iconst dX5_clears_12 ⟨by decide, by decide⟩ ?_
  refine Ev.Vv3 (I' := jX5_puts) ml_X5_47 dX5_clears_13 cyX5_puts lm_0 rfl (by decide) ⟨by decide, by decide⟩ (by simp) rfl rfl (s_X5_puts hd0 hd (by decide) (by decide)) (fun σ' hq => ?_)
  subst hq
  refine Ev.aload_n dX5_clears_16 rfl ?_
  refine Ev.iload_n dX5_clears_17 rfl ?_
  refine Ev.bipush dX5_clears_18 ⟨by decide, by decide⟩ (by decide) ?_
  refine Ev.bipush dX5_clears_20 ⟨by decide, by decide⟩ (by decide) ?_
  refine Ev.Vv3 (I' := jX5_puts) ml_X5_47 dX5_clears_22 cyX5_puts lm_0 rfl (by decide) ⟨by decide, by decide⟩ (by simp) rfl rfl (s_X5_puts hd0 hd (by decide) (by decide)) (fun σ' hq => ?_)
  subst hq
  refine Ev.aload_n dX5_clears_25 rfl ?_
  refine Ev.iload_n dX5_clears_26 rfl ?_
  refine Ev.bipush dX5_clears_27 ⟨by decide, by decide⟩ (by decide) ?_
  refine Ev.iconst dX5_clears_29 ⟨by decide, by decide⟩ ?_
  refine Ev.Vv3 (I' := jX5_puts) ml_X5_47 dX5_clears_30 cyX5_puts lm_0 rfl (by decide) ⟨by decide, by decide⟩ (by simp) rfl rfl (s_X5_puts hd0 hd (by decide) (by decide)) (fun σ' hq => ?_)
  subst hq
  refine Ev.aload_n dX5_clears_33 rfl ?_
  refine Ev.iload_n dX5_clears_34 rfl ?_
  refine Ev.bipush dX5_clears_35 ⟨by decide, by decide⟩ (by decide) ?_
  refine Ev.iconst dX5_clears_37 ⟨by decide, by decide⟩ ?_
  refine Ev.Vv3 (I' := jX5_puts) ml_X5_47 dX5_clears_38 cyX5_puts lm_0 rfl (by decide) ⟨by decide, by decide⟩ (by simp) rfl rfl (s_X5_puts hd0 hd (by decide) (by decide)) (fun σ' hq => ?_)
  subst hq
  refine Ev.vret dX5_clears_41 rfl ?_
  rfl
def m_trig (d : Int) (τ : ev_M) : ev_M :=
  let τ1 := ev_up (ev_up τ (300 + (18 * d + 13)) (if τ (300 + (18 * d + 13)) < 999 then τ (300 + (18 * d + 13)) + 1 else 999)) 577 (τ 577 + 1)
  if τ (300 + (18 * d + 0)) = 1 then ev_up τ1 (300 + (18 * d + 14)) (τ 7 + τ (300 + (18 * d + 4))) else τ1
theorem s_X5_triggers {d : Int} {σ : ev_M} (hd0 : 0 ≤ d) (hd : d < 6) (ht : ev_in (σ 577 + 1)) (hn : ev_in (σ 7 + σ (300 + (18 * d + 4)))) (hk : 0 ≤ σ (300 + (18 * d + 13))) : Ev jX5_triggers layM 0 [some (rv 0), some (iv d)] [] σ (fun _ σ' => σ' = m_trig d σ) := by
  unfold ev_in at ht hn
  refine Ev.aload_n dX5_triggers_0 rfl ?_
  refine Ev.iload_n dX5_triggers_1 rfl ?_
  refine Ev.bipush dX5_triggers_2 ⟨by decide, by decide⟩ (by decide) ?_
  refine Ev.aload_n dX5_triggers_4 rfl ?_
  refine Ev.iload_n dX5_triggers_5 rfl ?_
  refine Ev.bipush dX5_triggers_6 ⟨by decide, by decide⟩ (by decide) ?_
  refine Ev.Vi2 (I' := jX5_of) ml_X5_100 dX5_triggers_8 cyX5_of lm_0 rfl (by decide) ⟨by decide, by decide⟩ (by simp) rfl rfl (s_X5_of hd0 hd (by decide) (by decide)) (fun r σ' hr8 hq => ?_)
  obtain ⟨rfl, hq⟩ := hq
  replace hq := hq.symm
  subst hq
  refine Ev.sipush dX5_triggers_11 ⟨by decide, by decide⟩ (by decide) ?_
  refine Ev.icmp_ge (tgt := 29) dX5_triggers_14 rfl (fun c14 => ?_) (fun c14 => ?_)
  · skip
    refine Ev.sipush dX5_triggers_29 ⟨by decide, by decide⟩ (by decide) ?_
    refine Ev.Vv3 (I' := jX5_puts) ml_X5_47 dX5_triggers_32 cyX5_puts lm_0 rfl (by decide) ⟨by decide, by decide⟩ (by simp) rfl rfl (s_X5_puts hd0 hd (by decide) (by decide)) (fun σ' hq => ?_)
    subst hq
    refine Ev.aload_n dX5_triggers_35 rfl ?_
    refine Ev.getr (570) dX5_triggers_36 fl_X5_19 lm_0 (by decide) rfl rfl ?_
    refine Ev.bipush dX5_triggers_39 ⟨by decide, by decide⟩ (by decide) ?_
    refine Ev.dup2 dX5_triggers_41 ?_
    refine Ev.ialdn (577) dX5_triggers_42 lm_570 (Or.inl rfl) (by decide) (by decide) rfl ?_
    try simp (disch := omega) only [ev_up_ne, ev_up_eqs]
    refine Ev.iconst dX5_triggers_43 ⟨by decide, by decide⟩ ?_
    refine Ev.iadd dX5_triggers_44 (by unfold ev_in; omega) ?_
    refine Ev.iastn (577) dX5_triggers_45 lm_570 (by decide) (by decide) rfl ?_
    refine Ev.aload_n dX5_triggers_46 rfl ?_
    refine Ev.iload_n dX5_triggers_47 rfl ?_
    refine Ev.iconst dX5_triggers_48 ⟨by decide, by decide⟩ ?_
    refine Ev.Vi2 (I' := jX5_of) ml_X5_100 dX5_triggers_49 cyX5_of lm_0 rfl (by decide) ⟨by decide, by decide⟩ (by simp) rfl rfl (s_X5_of hd0 hd (by decide) (by decide)) (fun r σ' hr49 hq => ?_)
    obtain ⟨rfl, hq⟩ := hq
    replace hq := hq.symm
    subst hq
    try simp (disch := omega) only [ev_up_ne, ev_up_eqs]
    refine Ev.iconst dX5_triggers_52 ⟨by decide, by decide⟩ ?_
    refine Ev.icmp_ne (tgt := 74) dX5_triggers_53 rfl (fun c53 => ?_) (fun c53 => ?_)
    · skip
      refine Ev.vret dX5_triggers_74 rfl ?_
      unfold m_trig
      first | rw [if_pos (by omega)] | rw [if_neg (by omega)]
      first | rw [if_pos (by omega)] | rw [if_neg (by omega)]
    · skip
      refine Ev.aload_n dX5_triggers_56 rfl ?_
      refine Ev.iload_n dX5_triggers_57 rfl ?_
      refine Ev.bipush dX5_triggers_58 ⟨by decide, by decide⟩ (by decide) ?_
      refine Ev.aload_n dX5_triggers_60 rfl ?_
      refine Ev.geti (7) dX5_triggers_61 fl_X5_57 lm_0 (by decide) rfl rfl ?_
      try simp (disch := omega) only [ev_up_ne, ev_up_eqs]
      refine Ev.aload_n dX5_triggers_64 rfl ?_
      refine Ev.iload_n dX5_triggers_65 rfl ?_
      refine Ev.iconst dX5_triggers_66 ⟨by decide, by decide⟩ ?_
      refine Ev.Vi2 (I' := jX5_of) ml_X5_100 dX5_triggers_67 cyX5_of lm_0 rfl (by decide) ⟨by decide, by decide⟩ (by simp) rfl rfl (s_X5_of hd0 hd (by decide) (by decide)) (fun r σ' hr67 hq => ?_)
      obtain ⟨rfl, hq⟩ := hq
      replace hq := hq.symm
      subst hq
      try simp (disch := omega) only [ev_up_ne, ev_up_eqs]
      refine Ev.iadd dX5_triggers_70 (by unfold ev_in; omega) ?_
      refine Ev.Vv3 (I' := jX5_puts) ml_X5_47 dX5_triggers_71 cyX5_puts lm_0 rfl (by decide) ⟨by decide, by decide⟩ (by simp) rfl rfl (s_X5_puts hd0 hd (by decide) (by decide)) (fun σ' hq => ?_)
      subst hq
      refine Ev.vret dX5_triggers_74 rfl ?_
      unfold m_trig
      first | rw [if_pos (by omega)] | rw [if_neg (by omega)]
      first | rw [if_pos (by omega)] | rw [if_neg (by omega)]
  · skip
    refine Ev.aload_n dX5_triggers_17 rfl ?_
    refine Ev.iload_n dX5_triggers_18 rfl ?_
    refine Ev.bipush dX5_triggers_19 ⟨by decide, by decide⟩ (by decide) ?_
    refine Ev.Vi2 (I' := jX5_of) ml_X5_100 dX5_triggers_21 cyX5_of lm_0 rfl (by decide) ⟨by decide, by decide⟩ (by simp) rfl rfl (s_X5_of hd0 hd (by decide) (by decide)) (fun r σ' hr21 hq => ?_)
    obtain ⟨rfl, hq⟩ := hq
    replace hq := hq.symm
    subst hq
    refine Ev.iconst dX5_triggers_24 ⟨by decide, by decide⟩ ?_
    refine Ev.iadd dX5_triggers_25 (by unfold ev_in; omega) ?_
    refine Ev.goto (tgt := 32) dX5_triggers_26 rfl ?_
    refine Ev.Vv3 (I' := jX5_puts) ml_X5_47 dX5_triggers_32 cyX5_puts lm_0 rfl (by decide) ⟨by decide, by decide⟩ (by simp) rfl rfl (s_X5_puts hd0 hd (by decide) (by decide)) (fun σ' hq => ?_)
    subst hq
    refine Ev.aload_n dX5_triggers_35 rfl ?_
    refine Ev.getr (570) dX5_triggers_36 fl_X5_19 lm_0 (by decide) rfl rfl ?_
    refine Ev.bipush dX5_triggers_39 ⟨by decide, by decide⟩ (by decide) ?_
    refine Ev.dup2 dX5_triggers_41 ?_
    refine Ev.ialdn (577) dX5_triggers_42 lm_570 (Or.inl rfl) (by decide) (by decide) rfl ?_
    try simp (disch := omega) only [ev_up_ne, ev_up_eqs]
    refine Ev.iconst dX5_triggers_43 ⟨by decide, by decide⟩ ?_
    refine Ev.iadd dX5_triggers_44 (by unfold ev_in; omega) ?_
    refine Ev.iastn (577) dX5_triggers_45 lm_570 (by decide) (by decide) rfl ?_
    refine Ev.aload_n dX5_triggers_46 rfl ?_
    refine Ev.iload_n dX5_triggers_47 rfl ?_
    refine Ev.iconst dX5_triggers_48 ⟨by decide, by decide⟩ ?_
    refine Ev.Vi2 (I' := jX5_of) ml_X5_100 dX5_triggers_49 cyX5_of lm_0 rfl (by decide) ⟨by decide, by decide⟩ (by simp) rfl rfl (s_X5_of hd0 hd (by decide) (by decide)) (fun r σ' hr49 hq => ?_)
    obtain ⟨rfl, hq⟩ := hq
    replace hq := hq.symm
    subst hq
    try simp (disch := omega) only [ev_up_ne, ev_up_eqs]
    refine Ev.iconst dX5_triggers_52 ⟨by decide, by decide⟩ ?_
    refine Ev.icmp_ne (tgt := 74) dX5_triggers_53 rfl (fun c53 => ?_) (fun c53 => ?_)
    · skip
      refine Ev.vret dX5_triggers_74 rfl ?_
      unfold m_trig
      first | rw [if_pos (by omega)] | rw [if_neg (by omega)]
      first | rw [if_pos (by omega)] | rw [if_neg (by omega)]
    · skip
      refine Ev.aload_n dX5_triggers_56 rfl ?_
      refine Ev.iload_n dX5_triggers_57 rfl ?_
      refine Ev.bipush dX5_triggers_58 ⟨by decide, by decide⟩ (by decide) ?_
      refine Ev.aload_n dX5_triggers_60 rfl ?_
      refine Ev.geti (7) dX5_triggers_61 fl_X5_57 lm_0 (by decide) rfl rfl ?_
      try simp (disch := omega) only [ev_up_ne, ev_up_eqs]
      refine Ev.aload_n dX5_triggers_64 rfl ?_
      refine Ev.iload_n dX5_triggers_65 rfl ?_
      refine Ev.iconst dX5_triggers_66 ⟨by decide, by decide⟩ ?_
      refine Ev.Vi2 (I' := jX5_of) ml_X5_100 dX5_triggers_67 cyX5_of lm_0 rfl (by decide) ⟨by decide, by decide⟩ (by simp) rfl rfl (s_X5_of hd0 hd (by decide) (by decide)) (fun r σ' hr67 hq => ?_)
      obtain ⟨rfl, hq⟩ := hq
      replace hq := hq.symm
      subst hq
      try simp (disch := omega) only [ev_up_ne, ev_up_eqs]
      refine Ev.iadd dX5_triggers_70 (by unfold ev_in; omega) ?_
      refine Ev.Vv3 (I' := jX5_puts) ml_X5_47 dX5_triggers_71 cyX5_puts lm_0 rfl (by decide) ⟨by decide, by decide⟩ (by simp) rfl rfl (s_X5_puts hd0 hd (by decide) (by decide)) (fun σ' hq => ?_)
      subst hq
      refine Ev.vret dX5_triggers_74 rfl ?_
      unfold m_trig
      first | rw [if_pos (by omega)] | rw [if_neg (by omega)]
      first | rw [if_pos (by omega)] | rw [if_neg (by omega)]
def m_toL (d c : Int) (τ : ev_M) : ev_M := if c = 1 then ev_up τ (300 + (18 * d + 7)) 0 else if c = 4 then m_clears d τ else if c = 8 then m_trig d τ else τ
theorem s_X5_toListener {d c : Int} {σ : ev_M} (hd0 : 0 ≤ d) (hd : d < 6) (ht : ev_in (σ 577 + 1)) (hn : ev_in (σ 7 + σ (300 + (18 * d + 4)))) (hk : 0 ≤ σ (300 + (18 * d + 13))) : Ev jX5_toListener layM 0 [some (rv 0), some (iv d), some (iv c)] [] σ (fun _ σ' => σ' = m_toL d c σ) := by
  refine Ev.iload_n dX5_toListener_0 rfl ?_
  refine Ev.iconst dX5_toListener_1 ⟨by decide, by decide⟩ ?_
  refine Ev.icmp_ne (tgt := 16) dX5_toListener_2 rfl (fun c2 => ?_) (fun c2 => ?_)
  · skip
    refine Ev.iload_n dX5_toListener_16 rfl ?_
    refine Ev.iconst dX5_toListener_17 ⟨by decide, by decide⟩ ?_
    refine Ev.icmp_ne (tgt := 29) dX5_toListener_18 rfl (fun c18 => ?_) (fun c18 => ?_)
    · skip
      refine Ev.iload_n dX5_toListener_29 rfl ?_
      refine Ev.bipush dX5_toListener_30 ⟨by decide, by decide⟩ (by decide) ?_
      refine Ev.icmp_ne (tgt := 40) dX5_toListener_32 rfl (fun c32 => ?_) (fun c32 => ?_)
      · skip
        refine Ev.vret dX5_toListener_40 rfl ?_
        unfold m_toL
        first | rw [if_pos (by omega)] | rw [if_neg (by omega), if_pos (by omega)] | rw [if_neg (by omega), if_neg (by omega), if_pos (by omega)] | rw [if_neg (by omega), if_neg (by omega), if_neg (by omega)]
      · skip
        refine Ev.aload_n dX5_toListener_35 rfl ?_
        refine Ev.iload_n dX5_toListener_36 rfl ?_
        refine Ev.Vv1 (I' := jX5_triggers) ml_X5_114 dX5_toListener_37 cyX5_triggers lm_0 rfl (by decide) ⟨by decide, by decide⟩ (by simp) rfl rfl (s_X5_triggers hd0 hd ht hn hk) (fun σ' hq => ?_)
        subst hq
        refine Ev.vret dX5_toListener_40 rfl ?_
        unfold m_toL
        first | rw [if_pos (by omega)] | rw [if_neg (by omega), if_pos (by omega)] | rw [if_neg (by omega), if_neg (by omega), if_pos (by omega)] | rw [if_neg (by omega), if_neg (by omega), if_neg (by omega)]
    · skip
      refine Ev.aload_n dX5_toListener_21 rfl ?_
      refine Ev.iload_n dX5_toListener_22 rfl ?_
      refine Ev.Vv1 (I' := jX5_clears) ml_X5_111 dX5_toListener_23 cyX5_clears lm_0 rfl (by decide) ⟨by decide, by decide⟩ (by simp) rfl rfl (s_X5_clears hd0 hd) (fun σ' hq => ?_)
      subst hq
      refine Ev.goto (tgt := 40) dX5_toListener_26 rfl ?_
      refine Ev.vret dX5_toListener_40 rfl ?_
      unfold m_toL
      first | rw [if_pos (by omega)] | rw [if_neg (by omega), if_pos (by omega)] | rw [if_neg (by omega), if_neg (by omega), if_pos (by omega)] | rw [if_neg (by omega), if_neg (by omega), if_neg (by omega)]
  · skip
    refine Ev.aload_n dX5_toListener_5 rfl ?_
    refine Ev.iload_n dX5_toListener_6 rfl ?_
    refine Ev.bipush dX5_toListener_7 ⟨by decide, by decide⟩ (by decide) ?_
    refine Ev.iconst dX5_toListener_9 ⟨by decide, by decide⟩ ?_
    refine Ev.Vv3 (I' := jX5_puts) ml_X5_47 dX5_toListener_10 cyX5_puts lm_0 rfl (by decide) ⟨by decide, by decide⟩ (by simp) rfl rfl (s_X5_puts hd0 hd (by decide) (by decide)) (fun σ' hq => ?_)
    subst hq
    refine Ev.goto (tgt := 40) dX5_toListener_13 rfl ?_
    refine Ev.vret dX5_toListener_40 rfl ?_
    unfold m_toL
    first | rw [if_pos (by omega)] | rw [if_neg (by omega), if_pos (by omega)] | rw [if_neg (by omega), if_neg (by omega), if_pos (by omega)] | rw [if_neg (by omega), if_neg (by omega), if_neg (by omega)]
theorem s_X5_listens {d : Int} {σ : ev_M} (hd0 : 0 ≤ d) (hd : d < 6) : Ev jX5_listens layM 0 [some (rv 0), some (iv d)] [] σ (fun _ σ' => σ' = ev_up (ev_up σ (300 + (18 * d + 6)) 1) (300 + (18 * d + 7)) 1) := by
  refine Ev.aload_n dX5_listens_0 rfl ?_
  refine Ev.iload_n dX5_listens_1 rfl ?_
  refine Ev.bipush dX5_listens_2 ⟨by decide, by decide⟩ (by decide) ?_
  refine Ev.iconst dX5_listens_4 ⟨by decide, by decide⟩ ?_
  refine Ev.Vv3 (I' := jX5_puts) ml_X5_47 dX5_listens_5 cyX5_puts lm_0 rfl (by decide) ⟨by decide, by decide⟩ (by simp) rfl rfl (s_X5_puts hd0 hd (by decide) (by decide)) (fun σ' hq => ?_)
  subst hq
  refine Ev.aload_n dX5_listens_8 rfl ?_
  refine Ev.iload_n dX5_listens_9 rfl ?_
  refine Ev.bipush dX5_listens_10 ⟨by decide, by decide⟩ (by decide) ?_
  refine Ev.iconst dX5_listens_12 ⟨by decide, by decide⟩ ?_
  refine Ev.Vv3 (I' := jX5_puts) ml_X5_47 dX5_listens_13 cyX5_puts lm_0 rfl (by decide) ⟨by decide, by decide⟩ (by simp) rfl rfl (s_X5_puts hd0 hd (by decide) (by decide)) (fun σ' hq => ?_)
  subst hq
  refine Ev.vret dX5_listens_16 rfl ?_
  rfl
theorem s_X5_isDevice {d : Int} {σ : ev_M} (h2 : 0 ≤ σ 2) : Ev jX5_isDevice layM 0 [some (rv 0), some (iv d)] [] σ (fun r σ' => r = (if 0 ≤ d ∧ d ≤ σ 2 - 1 then 1 else 0) ∧ σ' = σ) := by
  refine Ev.okM (fun hin => ?_)
  have h2' := hin 2
  unfold ev_in at h2'
  refine Ev.iload_n dX5_isDevice_0 rfl ?_
  refine Ev.iconst dX5_isDevice_1 ⟨by decide, by decide⟩ ?_
  refine Ev.aload_n dX5_isDevice_2 rfl ?_
  refine Ev.geti (2) dX5_isDevice_3 fl_X5_44 lm_0 (by decide) rfl rfl ?_
  refine Ev.iconst dX5_isDevice_6 ⟨by decide, by decide⟩ ?_
  refine Ev.isub dX5_isDevice_7 (by unfold ev_in; omega) ?_
  refine Ev.Si3 (I' := jX5_isIn) ml_X5_82 dX5_isDevice_8 cyX5_isIn (by decide) ⟨by decide, by decide⟩ (by simp) rfl rfl (s_X5_isIn) (fun r σ' hr8 hq => ?_)
  obtain ⟨rfl, hq⟩ := hq
  replace hq := hq.symm
  subst hq
  refine Ev.bool rfl dX5_isDevice_11 (by omega) ?_
  exact ⟨rfl, rfl⟩
def m_all (w v : Int) (d : Int) (τ : ev_M) : ev_M := ev_up τ (300 + (18 * d + w)) v
theorem s_X5_all {w v : Int} {σ : ev_M} (hw0 : 0 ≤ w) (hw : w < 18) (h2 : 0 ≤ σ 2) (h2' : σ 2 ≤ 6) : Ev jX5_all layM 0 [some (rv 0), some (iv w), some (iv v), none] [] σ (fun _ σ' => σ' = it (m_all w v) σ (σ 2).toNat) := by
  have loop : ∀ (j k : Nat), (k : Int) + j = σ 2 → Ev jX5_all layM 2 [some (rv 0), some (iv w), some (iv v), some (iv (k : Int))] [] (it (m_all w v) σ k) (fun _ σ' => σ' = it (m_all w v) σ (σ 2).toNat) := by
    intro j
    induction j with
    | zero =>
      intro k hk
      have e2 : it (m_all w v) σ k 2 = σ 2 := it_at (fun d σ => ev_up_ne (by omega)) k
      refine Ev.iload_n dX5_all_2 rfl ?_
      refine Ev.aload_n dX5_all_3 rfl ?_
      refine Ev.geti (2) dX5_all_4 fl_X5_44 lm_0 (by decide) rfl rfl ?_
      refine Ev.icmp_ge (tgt := 23) dX5_all_7 rfl (fun c7 => ?_) (fun c7 => ?_)
      · skip
        refine Ev.vret dX5_all_23 rfl ?_
        rw [show (σ 2).toNat = k by omega]
      · skip
        exact absurd c7 (by omega)
    | succ j ih =>
      intro k hk
      have e2 : it (m_all w v) σ k 2 = σ 2 := it_at (fun d σ => ev_up_ne (by omega)) k
      refine Ev.iload_n dX5_all_2 rfl ?_
      refine Ev.aload_n dX5_all_3 rfl ?_
      refine Ev.geti (2) dX5_all_4 fl_X5_44 lm_0 (by decide) rfl rfl ?_
      refine Ev.icmp_ge (tgt := 23) dX5_all_7 rfl (fun c7 => ?_) (fun c7 => ?_)
      · skip
        exact absurd c7 (by omega)
      · skip
        refine Ev.aload_n dX5_all_10 rfl ?_
        refine Ev.iload_n dX5_all_11 rfl ?_
        refine Ev.iload_n dX5_all_12 rfl ?_
        refine Ev.iload_n dX5_all_13 rfl ?_
        refine Ev.Vv3 (I' := jX5_puts) ml_X5_47 dX5_all_14 cyX5_puts lm_0 rfl (by decide) ⟨by decide, by decide⟩ (by simp) rfl rfl (s_X5_puts (by omega) (by omega) hw0 hw) (fun σ' hq => ?_)
        subst hq
        refine Ev.iinc3 dX5_all_17 (by unfold ev_in; omega) ?_
        refine Ev.goto (tgt := 2) dX5_all_20 rfl ?_
        exact ih (k + 1) (by omega)
  refine Ev.iconst dX5_all_0 ⟨by decide, by decide⟩ ?_
  refine Ev.istore3 rfl dX5_all_1 ?_
  exact loop (σ 2).toNat 0 (by omega)
