/-! the class: commands, bytes given, polls -/
theorem XI.itel {b : Int} {σ : ev_M} (h : XI b σ) (k : Nat) (hk : k ≤ 6) : XI b (it x_el σ k) := it_XI0 (fun i b τ hi h => h.u9 (by omega) (by omega) (by decide) (by decide)) h k hk
theorem XI.itenp {b : Int} {σ : ev_M} (h : XI b σ) (k : Nat) (hk : k ≤ 6) : XI b (it x_enp σ k) := it_XI0 (fun i b τ hi h => (h.u13 (by omega) (by omega) (by decide) (by decide)).u12 (by omega) (by omega) (by decide) (by decide)) h k hk
theorem XI.bgl {b i : Int} {σ : ev_M} (h : XI b σ) (h0 : 0 ≤ i) (h1 : i < 6) : XI b (x_bgl i σ) := (h.u9 h0 h1 (by decide) (by decide)).u10 h0 h1 (by decide) (by decide)
theorem XI.itcl {b a : Int} {σ : ev_M} (h : XI b σ) (k : Nat) (hk : k ≤ 6) : XI b (it (x_cl a) σ k) := it_XI0 (fun i b τ hi h => by
  unfold x_cl
  split
  · split
    · exact h.bgl (by omega) (by omega)
    · exact h.u13 (by omega) (by omega) (by decide) (by decide)
  · exact h) h k hk
theorem XI.itct {b a : Int} {σ : ev_M} (h : XI b σ) (k : Nat) (hk : k ≤ 6) : XI b (it (x_ct a) σ k) := it_XI0 (fun i b τ hi h => by
  unfold x_ct
  split
  · split
    · exact h.t7 (by omega) (by omega)
    · exact h.u13 (by omega) (by omega) (by decide) (by decide)
  · exact h) h k hk
theorem and7_0 : ∀ a : Fin 16, 0 ≤ ev_and ((a : Nat) : Int) 7 ∧ ev_and ((a : Nat) : Int) 7 ≤ 7 ∧ ev_and ((a : Nat) : Int) 7 = ((a : Nat) : Int) % 8 ∧ 0 ≤ ev_shr ((a : Nat) : Int) 3 ∧ ev_shr ((a : Nat) : Int) 3 ≤ 1 ∧ ev_shr ((a : Nat) : Int) 3 = ((a : Nat) : Int) / 8 := by decide +kernel
theorem and7 {a : Int} (h0 : 0 ≤ a) (h1 : a < 16) : 0 ≤ ev_and a 7 ∧ ev_and a 7 ≤ 7 ∧ ev_and a 7 = a % 8 ∧ 0 ≤ ev_shr a 3 ∧ ev_shr a 3 ≤ 1 ∧ ev_shr a 3 = a / 8 := by
  have := and7_0 ⟨a.toNat, by omega⟩
  simp only at this
  rwa [show ((a.toNat : Nat) : Int) = a by omega] at this
theorem XI.itsl {b a : Int} {σ : ev_M} (h : XI b σ) (ha : 0 ≤ a) (k : Nat) (hk : k ≤ 6) : XI b (it (x_sl a) σ k) := it_XI0 (fun i b τ hi h => by
  unfold x_sl
  split
  · exact h
  · split
    · next hc =>
      have := and7 ha hc
      exact (h.u14 (by omega) (by omega) (by omega) (by omega)).u15 (by omega) (by omega) (by omega) (by omega)
    · exact h.u14 (by omega) (by omega) (by decide) (by decide)) h k hk
theorem XI.itas {b a : Int} {σ : ev_M} (h : XI b σ) (k : Nat) (hk : k ≤ 6) : XI b (it (x_as a) σ k) := it_XI0 (fun i b τ hi h => by
  unfold x_as
  split
  · split
    · exact h.bgl (by omega) (by omega)
    · split
      · exact h.t7 (by omega) (by omega)
      · exact h
  · exact h) h k hk
theorem XI.lst {b c i : Int} {σ : ev_M} (h : XI b σ) (h0 : 0 ≤ i) (h1 : i < 6) : XI (b + 1) (x_lst c i σ) := by
  have hm := h.mono (show b ≤ b + 1 by omega)
  unfold x_lst
  split
  · exact hm.u10 h0 h1 (by decide) (by decide)
  · split
    · exact hm.clear h0 h1
    · split
      · exact hm.u12 h0 h1 (by decide) (by decide)
      · split
        · exact h.tr1 h0 h1
        · exact hm
theorem x_clear_o {i n : Int} {σ : ev_M} (h0 : 0 ≤ i) (h1 : i < 6) (hn : n < 1000) : x_clear i σ n = σ n := by
  unfold x_clear
  simp (disch := omega) only [ev_up_ne]
def x_ol (c : Int) (i : Int) (σ : ev_M) : ev_M := if σ (1000 + 100 * i + 9) = 0 then σ else x_lst c i σ
theorem x_ol_o {c i n : Int} {σ : ev_M} (h0 : 0 ≤ i) (h1 : i < 6) (hn : n < 1000) (h47 : n ≠ 47) (h43 : n ≠ 43) : x_ol c i σ n = σ n := by
  unfold x_ol x_lst
  split
  · rfl
  · split
    · exact ev_up_ne (by omega)
    · split
      · exact x_clear_o h0 h1 hn
      · split
        · exact ev_up_ne (by omega)
        · split
          · exact x_tr1_o h0 h1 hn h47 h43
          · rfl
theorem XI.ol {b c i : Int} {σ : ev_M} (h : XI b σ) (h0 : 0 ≤ i) (h1 : i < 6) : XI (b + 1) (x_ol c i σ) := by
  unfold x_ol
  split
  · exact h.mono (by omega)
  · exact h.lst h0 h1
theorem x_oa_o {c i n : Int} {σ : ev_M} (h0 : 0 ≤ i) (h1 : i < 6) (hn : n < 1000) : x_oa c i σ n = σ n := by
  unfold x_oa
  split
  · exact ev_up_ne (by omega)
  · split
    · exact x_clear_o h0 h1 hn
    · exact ev_up_ne (by omega)
theorem XI.oa {b c i : Int} {σ : ev_M} (h : XI b σ) (h0 : 0 ≤ i) (h1 : i < 6) : XI b (x_oa c i σ) := by
  unfold x_oa
  split
  · exact h.u11 h0 h1 (by decide) (by decide)
  · split
    · exact h.clear h0 h1
    · exact h.u14 h0 h1 (by decide) (by decide)
def x_plain (c : Int) (σ : ev_M) : ev_M := if c = 9 then x_pc σ else if c = 24 then ev_up σ 9 1 else if c = 25 then ev_up σ 9 0 else if c = 17 ∨ c = 20 ∨ c = 21 then it (x_oa c) σ (σ 4).toNat else it (x_ol c) σ (σ 4).toNat
theorem t_pl_all {c : Int} {σ : ev_M} (h4 : 0 ≤ σ 4) (h4' : σ 4 ≤ 6) : ∀ (j k : Nat) (ρ : ev_M), (k : Int) + j = σ 4 → ρ = it (x_oa c) σ k → Ev jX4_obeyPlain layX 109 [some (rv 0), some (iv c), some (iv (k : Int))] [] ρ (fun _ σ' => σ' = it (x_oa c) σ (σ 4).toNat) := by
  intro j
  induction j with
  | zero =>
    intro k ρ hk hρ
    have e4 : ρ 4 = σ 4 := by rw [hρ]; exact it_at' k (fun i σ hi => x_oa_o (by omega) (by omega) (by decide))
    refine Ev.iload_n dX4_obeyPlain_109 rfl ?_
    refine Ev.aload_n dX4_obeyPlain_110 rfl ?_
    refine Ev.geti (4) dX4_obeyPlain_111 fl_X4_63 lx_0 (by decide) rfl rfl ?_
    refine Ev.icmp_ge (tgt := 134) dX4_obeyPlain_114 rfl (fun c114 => ?_) (fun c114 => ?_)
    · skip
      refine Ev.goto (tgt := 176) dX4_obeyPlain_134 rfl ?_
      refine Ev.vret dX4_obeyPlain_176 rfl ?_
      rw [hρ, show (σ 4).toNat = k by omega]
    · skip
      exact absurd c114 (by omega)
  | succ j ih =>
    intro k ρ hk hρ
    have e4 : ρ 4 = σ 4 := by rw [hρ]; exact it_at' k (fun i σ hi => x_oa_o (by omega) (by omega) (by decide))
    refine Ev.iload_n dX4_obeyPlain_109 rfl ?_
    refine Ev.aload_n dX4_obeyPlain_110 rfl ?_
    refine Ev.geti (4) dX4_obeyPlain_111 fl_X4_63 lx_0 (by decide) rfl rfl ?_
    refine Ev.icmp_ge (tgt := 134) dX4_obeyPlain_114 rfl (fun c114 => ?_) (fun c114 => ?_)
    · skip
      exact absurd c114 (by omega)
    · skip
      refine Ev.aload_n dX4_obeyPlain_117 rfl ?_
      refine Ev.iload_n dX4_obeyPlain_118 rfl ?_
      refine Ev.aload_n dX4_obeyPlain_119 rfl ?_
      refine Ev.getr (50) dX4_obeyPlain_120 fl_X4_18 lx_0 (by decide) rfl rfl ?_
      refine Ev.iload_n dX4_obeyPlain_123 rfl ?_
      refine Ev.aald dX4_obeyPlain_124 lx_50 (by omega) (by omega) ?_
      refine Ev.Vv2 (I' := jX4_obeyAsOneOfAll) ml_X4_225 dX4_obeyPlain_125 cyX4_obeyAsOneOfAll lx_0 rfl (by decide) ⟨by decide, by decide⟩ (by simp) rfl rfl (s_X4_obeyAsOneOfAll (by omega) (by omega)) (fun σ' hq => ?_)
      subst hq
      refine Ev.iinc2 dX4_obeyPlain_128 (by unfold ev_in; omega) ?_
      refine Ev.goto (tgt := 109) dX4_obeyPlain_131 rfl ?_
      refine ih (k + 1) _ (by omega) ?_
      rw [show it (x_oa c) σ (k + 1) = x_oa c (k : Int) (it (x_oa c) σ k) from rfl, ← hρ]
theorem t_pl_lst {b c : Int} {σ : ev_M} (hX : XI b σ) (hb : b ≤ 800000000) : ∀ (j k : Nat) (ρ : ev_M), (k : Int) + j = σ 4 → ρ = it (x_ol c) σ k → Ev jX4_obeyPlain layX 139 [some (rv 0), some (iv c), some (iv (k : Int))] [] ρ (fun _ σ' => σ' = it (x_ol c) σ (σ 4).toNat) := by
  have h4 := hX.s4
  intro j
  induction j with
  | zero =>
    intro k ρ hk hρ
    have e4 : ρ 4 = σ 4 := by rw [hρ]; exact it_at' k (fun i σ hi => x_ol_o (by omega) (by omega) (by decide) (by decide) (by decide))
    refine Ev.iload_n dX4_obeyPlain_139 rfl ?_
    refine Ev.aload_n dX4_obeyPlain_140 rfl ?_
    refine Ev.geti (4) dX4_obeyPlain_141 fl_X4_63 lx_0 (by decide) rfl rfl ?_
    refine Ev.icmp_ge (tgt := 176) dX4_obeyPlain_144 rfl (fun c144 => ?_) (fun c144 => ?_)
    · skip
      refine Ev.vret dX4_obeyPlain_176 rfl ?_
      rw [hρ, show (σ 4).toNat = k by omega]
    · skip
      exact absurd c144 (by omega)
  | succ j ih =>
    intro k ρ hk hρ
    have e4 : ρ 4 = σ 4 := by rw [hρ]; exact it_at' k (fun i σ hi => x_ol_o (by omega) (by omega) (by decide) (by decide) (by decide))
    have hXk := it_XI1 (fun i b τ hi h => h.ol (c := c) (by omega) (by omega)) hX k (by omega)
    rw [← hρ] at hXk
    refine Ev.iload_n dX4_obeyPlain_139 rfl ?_
    refine Ev.aload_n dX4_obeyPlain_140 rfl ?_
    refine Ev.geti (4) dX4_obeyPlain_141 fl_X4_63 lx_0 (by decide) rfl rfl ?_
    refine Ev.icmp_ge (tgt := 176) dX4_obeyPlain_144 rfl (fun c144 => ?_) (fun c144 => ?_)
    · skip
      exact absurd c144 (by omega)
    · skip
      refine Ev.aload_n dX4_obeyPlain_147 rfl ?_
      refine Ev.getr (50) dX4_obeyPlain_148 fl_X4_18 lx_0 (by decide) rfl rfl ?_
      refine Ev.iload_n dX4_obeyPlain_151 rfl ?_
      refine Ev.aald dX4_obeyPlain_152 lx_50 (by omega) (by omega) ?_
      refine Ev.geti (_ + 9) dX4_obeyPlain_153 fl_X4_229 (lx_dev (by omega) (by omega)) (by decide) rfl rfl ?_
      refine Ev.if_eq (tgt := 170) dX4_obeyPlain_156 rfl (fun c156 => ?_) (fun c156 => ?_)
      · skip
        refine Ev.iinc2 dX4_obeyPlain_170 (by unfold ev_in; omega) ?_
        refine Ev.goto (tgt := 139) dX4_obeyPlain_173 rfl ?_
        refine ih (k + 1) _ (by omega) ?_
        rw [show it (x_ol c) σ (k + 1) = x_ol c (k : Int) (it (x_ol c) σ k) from rfl, ← hρ]
        unfold x_ol
        first | rw [if_pos (by omega)] | rw [if_neg (by omega)]
      · skip
        refine Ev.aload_n dX4_obeyPlain_159 rfl ?_
        refine Ev.iload_n dX4_obeyPlain_160 rfl ?_
        refine Ev.aload_n dX4_obeyPlain_161 rfl ?_
        refine Ev.getr (50) dX4_obeyPlain_162 fl_X4_18 lx_0 (by decide) rfl rfl ?_
        refine Ev.iload_n dX4_obeyPlain_165 rfl ?_
        refine Ev.aald dX4_obeyPlain_166 lx_50 (by omega) (by omega) ?_
        refine Ev.Vv2 (I' := jX4_obeyAsListener) ml_X4_232 dX4_obeyPlain_167 cyX4_obeyAsListener lx_0 rfl (by decide) ⟨by decide, by decide⟩ (by simp) rfl rfl (s_X4_obeyAsListener (by omega) (by omega) hXk (by omega)) (fun σ' hq => ?_)
        subst hq
        refine Ev.iinc2 dX4_obeyPlain_170 (by unfold ev_in; omega) ?_
        refine Ev.goto (tgt := 139) dX4_obeyPlain_173 rfl ?_
        refine ih (k + 1) _ (by omega) ?_
        rw [show it (x_ol c) σ (k + 1) = x_ol c (k : Int) (it (x_ol c) σ k) from rfl, ← hρ]
        unfold x_ol
        first | rw [if_pos (by omega)] | rw [if_neg (by omega)]
theorem s_X4_obeyPlain {b c : Int} {σ : ev_M} (hX : XI b σ) (hb : b ≤ 800000000) : Ev jX4_obeyPlain layX 0 [some (rv 0), some (iv c), none] [] σ (fun _ σ' => σ' = x_plain c σ) := by
  have h4 := hX.s4
  have a46 := hX.sum (n := 46) (by decide)
  refine Ev.iload_n dX4_obeyPlain_0 rfl ?_
  by_cases hs : 9 ≤ c ∧ c ≤ 25
  · rcases (show c = 9 ∨ c = 10 ∨ c = 11 ∨ c = 12 ∨ c = 13 ∨ c = 14 ∨ c = 15 ∨ c = 16 ∨ c = 17 ∨ c = 18 ∨ c = 19 ∨ c = 20 ∨ c = 21 ∨ c = 22 ∨ c = 23 ∨ c = 24 ∨ c = 25 by omega) with rfl | rfl | rfl | rfl | rfl | rfl | rfl | rfl | rfl | rfl | rfl | rfl | rfl | rfl | rfl | rfl | rfl
    · refine Ev.tabIn (tgt := 84) dX4_obeyPlain_1 (by decide) (by decide) rfl rfl ?_
      refine Ev.aload_n dX4_obeyPlain_84 rfl ?_
      refine Ev.Vv0 (I' := jX4_passCharge) ml_X4_222 dX4_obeyPlain_85 cyX4_passCharge lx_0 rfl (by decide) ⟨by decide, by decide⟩ (by simp) rfl rfl (s_X4_passCharge (by omega) (by unfold ev_in; omega)) (fun σ' hq => ?_)
      subst hq
      refine Ev.goto (tgt := 176) dX4_obeyPlain_88 rfl ?_
      refine Ev.vret dX4_obeyPlain_176 rfl ?_
      rfl
    · refine Ev.tabIn (tgt := 137) dX4_obeyPlain_1 (by decide) (by decide) rfl rfl ?_
      refine Ev.iconst dX4_obeyPlain_137 ⟨by decide, by decide⟩ ?_
      refine Ev.istore2 rfl dX4_obeyPlain_138 ?_
      refine (t_pl_lst hX hb (σ 4).toNat 0 _ (by omega) rfl).mono (fun _ σ' h => ?_)
      rw [h]
      first | rfl | (unfold x_plain; repeat (first | rw [if_pos (by omega)] | rw [if_neg (by omega)]))
    · refine Ev.tabIn (tgt := 137) dX4_obeyPlain_1 (by decide) (by decide) rfl rfl ?_
      refine Ev.iconst dX4_obeyPlain_137 ⟨by decide, by decide⟩ ?_
      refine Ev.istore2 rfl dX4_obeyPlain_138 ?_
      refine (t_pl_lst hX hb (σ 4).toNat 0 _ (by omega) rfl).mono (fun _ σ' h => ?_)
      rw [h]
      first | rfl | (unfold x_plain; repeat (first | rw [if_pos (by omega)] | rw [if_neg (by omega)]))
    · refine Ev.tabIn (tgt := 137) dX4_obeyPlain_1 (by decide) (by decide) rfl rfl ?_
      refine Ev.iconst dX4_obeyPlain_137 ⟨by decide, by decide⟩ ?_
      refine Ev.istore2 rfl dX4_obeyPlain_138 ?_
      refine (t_pl_lst hX hb (σ 4).toNat 0 _ (by omega) rfl).mono (fun _ σ' h => ?_)
      rw [h]
      first | rfl | (unfold x_plain; repeat (first | rw [if_pos (by omega)] | rw [if_neg (by omega)]))
    · refine Ev.tabIn (tgt := 137) dX4_obeyPlain_1 (by decide) (by decide) rfl rfl ?_
      refine Ev.iconst dX4_obeyPlain_137 ⟨by decide, by decide⟩ ?_
      refine Ev.istore2 rfl dX4_obeyPlain_138 ?_
      refine (t_pl_lst hX hb (σ 4).toNat 0 _ (by omega) rfl).mono (fun _ σ' h => ?_)
      rw [h]
      first | rfl | (unfold x_plain; repeat (first | rw [if_pos (by omega)] | rw [if_neg (by omega)]))
    · refine Ev.tabIn (tgt := 137) dX4_obeyPlain_1 (by decide) (by decide) rfl rfl ?_
      refine Ev.iconst dX4_obeyPlain_137 ⟨by decide, by decide⟩ ?_
      refine Ev.istore2 rfl dX4_obeyPlain_138 ?_
      refine (t_pl_lst hX hb (σ 4).toNat 0 _ (by omega) rfl).mono (fun _ σ' h => ?_)
      rw [h]
      first | rfl | (unfold x_plain; repeat (first | rw [if_pos (by omega)] | rw [if_neg (by omega)]))
    · refine Ev.tabIn (tgt := 137) dX4_obeyPlain_1 (by decide) (by decide) rfl rfl ?_
      refine Ev.iconst dX4_obeyPlain_137 ⟨by decide, by decide⟩ ?_
      refine Ev.istore2 rfl dX4_obeyPlain_138 ?_
      refine (t_pl_lst hX hb (σ 4).toNat 0 _ (by omega) rfl).mono (fun _ σ' h => ?_)
      rw [h]
      first | rfl | (unfold x_plain; repeat (first | rw [if_pos (by omega)] | rw [if_neg (by omega)]))
    · refine Ev.tabIn (tgt := 137) dX4_obeyPlain_1 (by decide) (by decide) rfl rfl ?_
      refine Ev.iconst dX4_obeyPlain_137 ⟨by decide, by decide⟩ ?_
      refine Ev.istore2 rfl dX4_obeyPlain_138 ?_
      refine (t_pl_lst hX hb (σ 4).toNat 0 _ (by omega) rfl).mono (fun _ σ' h => ?_)
      rw [h]
      first | rfl | (unfold x_plain; repeat (first | rw [if_pos (by omega)] | rw [if_neg (by omega)]))
    · refine Ev.tabIn (tgt := 107) dX4_obeyPlain_1 (by decide) (by decide) rfl rfl ?_
      refine Ev.iconst dX4_obeyPlain_107 ⟨by decide, by decide⟩ ?_
      refine Ev.istore2 rfl dX4_obeyPlain_108 ?_
      refine (t_pl_all (by omega) (by omega) (σ 4).toNat 0 _ (by omega) rfl).mono (fun _ σ' h => ?_)
      rw [h]
      rfl
    · refine Ev.tabIn (tgt := 137) dX4_obeyPlain_1 (by decide) (by decide) rfl rfl ?_
      refine Ev.iconst dX4_obeyPlain_137 ⟨by decide, by decide⟩ ?_
      refine Ev.istore2 rfl dX4_obeyPlain_138 ?_
      refine (t_pl_lst hX hb (σ 4).toNat 0 _ (by omega) rfl).mono (fun _ σ' h => ?_)
      rw [h]
      first | rfl | (unfold x_plain; repeat (first | rw [if_pos (by omega)] | rw [if_neg (by omega)]))
    · refine Ev.tabIn (tgt := 137) dX4_obeyPlain_1 (by decide) (by decide) rfl rfl ?_
      refine Ev.iconst dX4_obeyPlain_137 ⟨by decide, by decide⟩ ?_
      refine Ev.istore2 rfl dX4_obeyPlain_138 ?_
      refine (t_pl_lst hX hb (σ 4).toNat 0 _ (by omega) rfl).mono (fun _ σ' h => ?_)
      rw [h]
      first | rfl | (unfold x_plain; repeat (first | rw [if_pos (by omega)] | rw [if_neg (by omega)]))
    · refine Ev.tabIn (tgt := 107) dX4_obeyPlain_1 (by decide) (by decide) rfl rfl ?_
      refine Ev.iconst dX4_obeyPlain_107 ⟨by decide, by decide⟩ ?_
      refine Ev.istore2 rfl dX4_obeyPlain_108 ?_
      refine (t_pl_all (by omega) (by omega) (σ 4).toNat 0 _ (by omega) rfl).mono (fun _ σ' h => ?_)
      rw [h]
      rfl
    · refine Ev.tabIn (tgt := 107) dX4_obeyPlain_1 (by decide) (by decide) rfl rfl ?_
      refine Ev.iconst dX4_obeyPlain_107 ⟨by decide, by decide⟩ ?_
      refine Ev.istore2 rfl dX4_obeyPlain_108 ?_
      refine (t_pl_all (by omega) (by omega) (σ 4).toNat 0 _ (by omega) rfl).mono (fun _ σ' h => ?_)
      rw [h]
      rfl
    · refine Ev.tabIn (tgt := 137) dX4_obeyPlain_1 (by decide) (by decide) rfl rfl ?_
      refine Ev.iconst dX4_obeyPlain_137 ⟨by decide, by decide⟩ ?_
      refine Ev.istore2 rfl dX4_obeyPlain_138 ?_
      refine (t_pl_lst hX hb (σ 4).toNat 0 _ (by omega) rfl).mono (fun _ σ' h => ?_)
      rw [h]
      first | rfl | (unfold x_plain; repeat (first | rw [if_pos (by omega)] | rw [if_neg (by omega)]))
    · refine Ev.tabIn (tgt := 137) dX4_obeyPlain_1 (by decide) (by decide) rfl rfl ?_
      refine Ev.iconst dX4_obeyPlain_137 ⟨by decide, by decide⟩ ?_
      refine Ev.istore2 rfl dX4_obeyPlain_138 ?_
      refine (t_pl_lst hX hb (σ 4).toNat 0 _ (by omega) rfl).mono (fun _ σ' h => ?_)
      rw [h]
      first | rfl | (unfold x_plain; repeat (first | rw [if_pos (by omega)] | rw [if_neg (by omega)]))
    · refine Ev.tabIn (tgt := 91) dX4_obeyPlain_1 (by decide) (by decide) rfl rfl ?_
      refine Ev.aload_n dX4_obeyPlain_91 rfl ?_
      refine Ev.iconst dX4_obeyPlain_92 ⟨by decide, by decide⟩ ?_
      refine Ev.putz (9) dX4_obeyPlain_93 fl_X4_98 ft_4_9 lx_0 (by decide) rfl rfl (by omega) ?_
      refine Ev.goto (tgt := 176) dX4_obeyPlain_96 rfl ?_
      refine Ev.vret dX4_obeyPlain_176 rfl ?_
      rfl
    · refine Ev.tabIn (tgt := 99) dX4_obeyPlain_1 (by decide) (by decide) rfl rfl ?_
      refine Ev.aload_n dX4_obeyPlain_99 rfl ?_
      refine Ev.iconst dX4_obeyPlain_100 ⟨by decide, by decide⟩ ?_
      refine Ev.putz (9) dX4_obeyPlain_101 fl_X4_98 ft_4_9 lx_0 (by decide) rfl rfl (by omega) ?_
      refine Ev.goto (tgt := 176) dX4_obeyPlain_104 rfl ?_
      refine Ev.vret dX4_obeyPlain_176 rfl ?_
      rfl
  · refine Ev.tabOut (tgt := 137) dX4_obeyPlain_1 (by omega) rfl ?_
    refine Ev.iconst dX4_obeyPlain_137 ⟨by decide, by decide⟩ ?_
    refine Ev.istore2 rfl dX4_obeyPlain_138 ?_
    refine (t_pl_lst hX hb (σ 4).toNat 0 _ (by omega) rfl).mono (fun _ σ' h => ?_)
    rw [h]
    first | rfl | (unfold x_plain; repeat (first | rw [if_pos (by omega)] | rw [if_neg (by omega)]))
theorem XI.plain {b c : Int} {σ : ev_M} (h : XI b σ) : XI (b + 6) (x_plain c σ) := by
  have hn := h.nat4
  have hm := h.mono (show b ≤ b + 6 by omega)
  have h46 := h.sum (n := 46) (by decide)
  have h7 := h.s7
  have h4 := h.s4
  unfold x_plain
  split
  · unfold x_pc
    split
    · exact ((hm.t6 (by omega) (by omega)).t7 (by decide) (by decide)).usum (by decide) (by omega) (by omega)
    · exact hm
  · split
    · exact hm.t9 (by decide) (by decide)
    · split
      · exact hm.t9 (by decide) (by decide)
      · split
        · exact it_XI0 (fun i b τ hi h => h.oa (by omega) (by omega)) hm _ hn
        · exact it_XI1 (fun i b τ hi h => h.ol (by omega) (by omega)) h _ hn
theorem x_plain_o {b c n : Int} {σ : ev_M} (h : XI b σ) (hn : n < 1000) (hx : n ≠ 6 ∧ n ≠ 7 ∧ n ≠ 9 ∧ n ≠ 46 ∧ n ≠ 47 ∧ n ≠ 43) : x_plain c σ n = σ n := by
  have hk := h.nat4
  unfold x_plain
  split
  · unfold x_pc
    split
    · rw [ev_up_ne (by omega), ev_up_ne (by omega), ev_up_ne (by omega)]
    · rfl
  · split
    · exact ev_up_ne (by omega)
    · split
      · exact ev_up_ne (by omega)
      · split
        · exact it_at' _ (fun i σ hi => x_oa_o (by omega) (by omega) hn)
        · exact it_at' _ (fun i σ hi => x_ol_o (by omega) (by omega) hn (by omega) (by omega))
def x_second (a : Int) (σ : ev_M) : ev_M := if σ 8 = 5 then it (x_sl a) σ (σ 4).toNat else if a = 31 then σ else it (x_as a) σ (σ 4).toNat
theorem s_X4_obeySecond {b a : Int} {σ : ev_M} (hX : XI b σ) : Ev jX4_obeySecond layX 0 [some (rv 0), some (iv a)] [] σ (fun _ σ' => σ' = x_second a σ) := by
  have h4 := hX.s4
  refine Ev.aload_n dX4_obeySecond_0 rfl ?_
  refine Ev.geti (8) dX4_obeySecond_1 fl_X4_183 lx_0 (by decide) rfl rfl ?_
  refine Ev.iconst dX4_obeySecond_4 ⟨by decide, by decide⟩ ?_
  refine Ev.icmp_ne (tgt := 16) dX4_obeySecond_5 rfl (fun c5 => ?_) (fun c5 => ?_)
  · skip
    refine Ev.iload_n dX4_obeySecond_16 rfl ?_
    refine Ev.bipush dX4_obeySecond_17 ⟨by decide, by decide⟩ (by decide) ?_
    refine Ev.icmp_eq (tgt := 27) dX4_obeySecond_19 rfl (fun c19 => ?_) (fun c19 => ?_)
    · skip
      refine Ev.vret dX4_obeySecond_27 rfl ?_
      unfold x_second
      repeat (first | rw [if_pos (by omega)] | rw [if_neg (by omega)])
    · skip
      refine Ev.aload_n dX4_obeySecond_22 rfl ?_
      refine Ev.iload_n dX4_obeySecond_23 rfl ?_
      refine Ev.Vv1 (I' := jX4_answerSecond) ml_X4_263 dX4_obeySecond_24 cyX4_answerSecond lx_0 rfl (by decide) ⟨by decide, by decide⟩ (by simp) rfl rfl (s_X4_answerSecond (by omega) (by omega)) (fun σ' hq => ?_)
      subst hq
      refine Ev.vret dX4_obeySecond_27 rfl ?_
      unfold x_second
      repeat (first | rw [if_pos (by omega)] | rw [if_neg (by omega)])
  · skip
    refine Ev.aload_n dX4_obeySecond_8 rfl ?_
    refine Ev.iload_n dX4_obeySecond_9 rfl ?_
    refine Ev.Vv1 (I' := jX4_setLines) ml_X4_260 dX4_obeySecond_10 cyX4_setLines lx_0 rfl (by decide) ⟨by decide, by decide⟩ (by simp) rfl rfl (s_X4_setLines (by omega) (by omega)) (fun σ' hq => ?_)
    subst hq
    refine Ev.goto (tgt := 27) dX4_obeySecond_13 rfl ?_
    refine Ev.vret dX4_obeySecond_27 rfl ?_
    unfold x_second
    repeat (first | rw [if_pos (by omega)] | rw [if_neg (by omega)])
theorem XI.second {b a : Int} {σ : ev_M} (h : XI b σ) (ha : 0 ≤ a) : XI b (x_second a σ) := by
  have hn := h.nat4
  unfold x_second
  split
  · exact h.itsl ha _ hn
  · split
    · exact h
    · exact h.itas _ hn
theorem x_second_o {b a n : Int} {σ : ev_M} (h : XI b σ) (hn : n < 1000) (h7 : n ≠ 7) : x_second a σ n = σ n := by
  have hk := h.nat4
  unfold x_second
  split
  · exact it_at' _ (fun i σ hi => x_sl_o (by omega) (by omega) hn h7)
  · split
    · rfl
    · exact it_at' _ (fun i σ hi => x_as_o (by omega) (by omega) hn h7)
def x_s1 (c : Int) (σ : ev_M) : ev_M := ev_up (x_keep (σ 5) c (σ 6) σ) 40 (x_keep (σ 5) c (σ 6) σ 40 + 1)
def x_s2 (c : Int) (σ : ev_M) : ev_M := x_pass (x_gp (x_s1 c σ)) (x_s1 c σ)
def x_s3 (c : Int) (σ : ev_M) : ev_M := if 96 ≤ c then x_second (c - 96) (x_s2 c σ) else x_s2 c σ
def x_s4 (c : Int) (σ : ev_M) : ev_M := it x_enp (x_s3 c σ) (x_s3 c σ 4).toNat
def x_s5 (c : Int) (ρ : ev_M) : ev_M := if c < 32 then x_plain c ρ else if c < 63 then it (x_cl (c - 32)) ρ (ρ 4).toNat else if c = 63 then it x_el ρ (ρ 4).toNat else if c < 95 then it (x_ct (c - 64)) (ev_up ρ 7 (-4)) (ρ 4).toNat else if c = 95 then ev_up ρ 7 (-4) else ρ
def x_send (c : Int) (σ : ev_M) : ev_M := ev_up (x_s5 c (x_s4 c σ)) 8 c
theorem XI.keep {b t c h : Int} {σ : ev_M} (hX : XI b σ) (ht : ev_in t) (hc : ev_in c) (hh : ev_in h) : XI b (x_keep t c h σ) := by
  have a34 := hX.s34
  have a33 := hX.s33
  unfold ev_in at ht hc hh
  unfold x_keep
  exact ((((hX.ulgf (by omega) (by omega) (by omega)).ulgf (by omega) (by omega) (by omega)).ulgf (by omega) (by omega) (by omega)).t34 (by omega) (by omega)).t33 (by split <;> omega) (by split <;> omega)
theorem x_keep_o {b t c h n : Int} {σ : ev_M} (hX : XI b σ) (hn : n ≠ 33 ∧ n ≠ 34 ∧ (n < 100 ∨ 156 ≤ n)) : x_keep t c h σ n = σ n := by
  have a34 := hX.s34
  unfold x_keep
  simp (disch := omega) only [ev_up_ne]
theorem XI.x1 {b c : Int} {σ : ev_M} (h : XI b σ) (hb : b ≤ 1000000000) (hc : ev_in c) : XI (b + 1) (x_s1 c σ) := by
  have a5 := h.s5
  have a6 := h.s6
  have hk := h.keep (t := σ 5) (c := c) (h := σ 6) (by unfold ev_in; omega) hc (by unfold ev_in; omega)
  have a40 := hk.sum (n := 40) (by decide)
  exact (hk.mono (by omega)).usum (by decide) (by omega) (by omega)
theorem XI.x2 {b c : Int} {σ : ev_M} (h : XI b σ) (hb : b ≤ 1000000000) (hc : ev_in c) : XI (b + 16) (x_s2 c σ) := by
  have h1 := h.x1 hb hc
  have h2 := x_gp_rng h1
  exact (h1.pass h2.1).mono (by omega)
theorem XI.x3 {b c : Int} {σ : ev_M} (h : XI b σ) (hb : b ≤ 1000000000) (hc : ev_in c) : XI (b + 16) (x_s3 c σ) := by
  unfold x_s3
  split
  · exact (h.x2 hb hc).second (by omega)
  · exact h.x2 hb hc
theorem XI.x4 {b c : Int} {σ : ev_M} (h : XI b σ) (hb : b ≤ 1000000000) (hc : ev_in c) : XI (b + 16) (x_s4 c σ) := (h.x3 hb hc).itenp _ (h.x3 hb hc).nat4
theorem XI.x5 {b c : Int} {ρ : ev_M} (h : XI b ρ) : XI (b + 6) (x_s5 c ρ) := by
  have hn := h.nat4
  have hm := h.mono (show b ≤ b + 6 by omega)
  unfold x_s5
  split
  · exact h.plain
  · split
    · exact hm.itcl _ hn
    · split
      · exact hm.itel _ hn
      · split
        · exact (hm.t7 (by decide) (by decide)).itct _ hn
        · split
          · exact hm.t7 (by decide) (by decide)
          · exact hm
theorem XI.send {b c : Int} {σ : ev_M} (h : XI b σ) (hb : b ≤ 1000000000) (hc0 : 0 ≤ c) (hc1 : c ≤ 127) : XI (b + 22) (x_send c σ) := (((h.x4 hb (by unfold ev_in; omega)).x5).t8 (by omega) (by omega)).mono (by omega)
theorem x_s1_o {b c n : Int} {σ : ev_M} (h : XI b σ) (hn : n ≠ 33 ∧ n ≠ 34 ∧ n ≠ 40 ∧ (n < 100 ∨ 156 ≤ n)) : x_s1 c σ n = σ n := by
  unfold x_s1
  rw [ev_up_ne (by omega), x_keep_o h (by omega)]
theorem x_send_o {b c n : Int} {σ : ev_M} (h : XI b σ) (hb : b ≤ 1000000000) (hc0 : 0 ≤ c) (hc1 : c ≤ 127) (hn : n < 1000) (hx : n < 5 ∨ (9 < n ∧ n < 33) ∨ (48 ≤ n ∧ n < 100) ∨ 156 ≤ n) : x_send c σ n = σ n := by
  have hc : ev_in c := by unfold ev_in; omega
  have h1 := h.x1 hb hc
  have h2 := h.x2 hb hc
  have h3 := h.x3 hb hc
  have h4 := h.x4 hb hc
  have k3 := h3.nat4
  have k4 := h4.nat4
  unfold x_send
  rw [ev_up_ne (by omega)]
  have e5 : x_s5 c (x_s4 c σ) n = x_s4 c σ n := by
    unfold x_s5
    split
    · exact x_plain_o h4 hn (by omega)
    · split
      · exact it_at' _ (fun i σ hi => x_cl_o (by omega) (by omega) hn (by omega))
      · split
        · exact it_at' _ (fun i σ hi => x_el_o (by omega) (by omega) hn)
        · split
          · rw [it_at' _ (fun i σ hi => x_ct_o (by omega) (by omega) hn (by omega)), ev_up_ne (by omega)]
          · split
            · exact ev_up_ne (by omega)
            · rfl
  rw [e5]
  unfold x_s4
  rw [it_at' _ (fun i σ hi => x_enp_o (by omega) (by omega) hn)]
  have e3 : x_s3 c σ n = x_s2 c σ n := by
    unfold x_s3
    split
    · exact x_second_o h2 hn (by omega)
    · rfl
  rw [e3]
  unfold x_s2
  rw [x_pass_o h1 hn (by omega) (by omega), x_s1_o h (by omega)]
theorem s_X4_send {b c : Int} {σ : ev_M} (hX : XI b σ) (hb : b ≤ 700000000) (hc0 : 0 ≤ c) (hc1 : c ≤ 127) : Ev jX4_send layX 0 [some (rv 0), some (iv c)] [] σ (fun _ σ' => σ' = x_send c σ) := by
  have hc : ev_in c := by unfold ev_in; omega
  have a5 := hX.s5
  have a6 := hX.s6
  have a34 := hX.s34
  have a33 := hX.s33
  have hK := hX.keep (t := σ 5) (c := c) (h := σ 6) (by unfold ev_in; omega) hc (by unfold ev_in; omega)
  have a40 := hK.sum (n := 40) (by decide)
  have h1 := hX.x1 (c := c) (by omega) hc
  have h2 := hX.x2 (c := c) (by omega) hc
  have h3 := hX.x3 (c := c) (by omega) hc
  have h4 := hX.x4 (c := c) (by omega) hc
  have g1 := x_gp_rng h1
  have s1 := h1.s4
  have s3 := h3.s4
  have s4 := h4.s4
  refine Ev.aload_n dX4_send_0 rfl ?_
  refine Ev.getr (30) dX4_send_1 fl_X4_26 lx_0 (by decide) rfl rfl ?_
  refine Ev.aload_n dX4_send_4 rfl ?_
  refine Ev.geti (5) dX4_send_5 fl_X4_70 lx_0 (by decide) rfl rfl ?_
  refine Ev.iload_n dX4_send_8 rfl ?_
  refine Ev.aload_n dX4_send_9 rfl ?_
  refine Ev.geti (6) dX4_send_10 fl_X4_79 lx_0 (by decide) rfl rfl ?_
  refine Ev.Vv3 (I' := jX1_keep) ml_X4_203 dX4_send_13 cyX1_keep lx_30 rfl (by decide) ⟨by decide, by decide⟩ (by simp) rfl rfl (s_X1_keep (by omega) (by omega) (by omega) (by omega)) (fun σ' hq => ?_)
  subst hq
  refine Ev.aload_n dX4_send_16 rfl ?_
  refine Ev.getr (40) dX4_send_17 fl_X4_30 lx_0 (by decide) rfl rfl ?_
  refine Ev.iconst dX4_send_20 ⟨by decide, by decide⟩ ?_
  refine Ev.dup2 dX4_send_21 ?_
  refine Ev.ialdn (40) dX4_send_22 lx_40 (Or.inl rfl) (by decide) (by decide) rfl ?_
  refine Ev.iconst dX4_send_23 ⟨by decide, by decide⟩ ?_
  refine Ev.iadd dX4_send_24 (by unfold ev_in; omega) ?_
  refine Ev.iastn (40) dX4_send_25 lx_40 (by decide) (by decide) rfl ?_
  rw [show ev_up (x_keep (σ 5) c (σ 6) σ) 40 (x_keep (σ 5) c (σ 6) σ 40 + 1) = x_s1 c σ from rfl]
  refine Ev.aload_n dX4_send_26 rfl ?_
  refine Ev.aload_n dX4_send_27 rfl ?_
  refine Ev.Vi0 (I' := jX4_greatestPace) ml_X4_207 dX4_send_28 cyX4_greatestPace lx_0 rfl (by decide) ⟨by decide, by decide⟩ (by simp) rfl rfl (s_X4_greatestPace (by omega) (by omega)) (fun r σ' hr28 hq => ?_)
  obtain ⟨rfl, hq⟩ := hq
  replace hq := hq.symm
  subst hq
  refine Ev.Vv1 (I' := jX4_passTicks) ml_X4_76 dX4_send_31 cyX4_passTicks lx_0 rfl (by decide) ⟨by decide, by decide⟩ (by simp) rfl rfl (s_X4_passTicks (by omega) (by omega) h1 (by omega)) (fun σ' hq => ?_)
  subst hq
  rw [show x_pass (x_gp (x_s1 c σ)) (x_s1 c σ) = x_s2 c σ from rfl]
  refine Ev.iload_n dX4_send_34 rfl ?_
  refine Ev.bipush dX4_send_35 ⟨by decide, by decide⟩ (by decide) ?_
  refine Ev.icmp_lt (tgt := 48) dX4_send_37 rfl (fun c37 => ?_) (fun c37 => ?_)
  · skip
    first | rw [show x_second (c - 96) (x_s2 c σ) = x_s3 c σ by unfold x_s3; rw [if_pos (by omega)]] | rw [show x_s2 c σ = x_s3 c σ by unfold x_s3; rw [if_neg (by omega)]]
    refine Ev.aload_n dX4_send_48 rfl ?_
    refine Ev.Vv0 (I' := jX4_endNamedAndPrepared) ml_X4_95 dX4_send_49 cyX4_endNamedAndPrepared lx_0 rfl (by decide) ⟨by decide, by decide⟩ (by simp) rfl rfl (s_X4_endNamedAndPrepared (by omega) (by omega)) (fun σ' hq => ?_)
    subst hq
    rw [show it x_enp (x_s3 c σ) (x_s3 c σ 4).toNat = x_s4 c σ from rfl]
    refine Ev.iload_n dX4_send_52 rfl ?_
    refine Ev.bipush dX4_send_53 ⟨by decide, by decide⟩ (by decide) ?_
    refine Ev.icmp_ge (tgt := 66) dX4_send_55 rfl (fun c55 => ?_) (fun c55 => ?_)
    · skip
      refine Ev.iload_n dX4_send_66 rfl ?_
      refine Ev.bipush dX4_send_67 ⟨by decide, by decide⟩ (by decide) ?_
      refine Ev.icmp_ge (tgt := 83) dX4_send_69 rfl (fun c69 => ?_) (fun c69 => ?_)
      · skip
        refine Ev.iload_n dX4_send_83 rfl ?_
        refine Ev.bipush dX4_send_84 ⟨by decide, by decide⟩ (by decide) ?_
        refine Ev.icmp_ne (tgt := 96) dX4_send_86 rfl (fun c86 => ?_) (fun c86 => ?_)
        · skip
          refine Ev.iload_n dX4_send_96 rfl ?_
          refine Ev.bipush dX4_send_97 ⟨by decide, by decide⟩ (by decide) ?_
          refine Ev.icmp_ge (tgt := 113) dX4_send_99 rfl (fun c99 => ?_) (fun c99 => ?_)
          · skip
            refine Ev.iload_n dX4_send_113 rfl ?_
            refine Ev.bipush dX4_send_114 ⟨by decide, by decide⟩ (by decide) ?_
            refine Ev.icmp_ne (tgt := 125) dX4_send_116 rfl (fun c116 => ?_) (fun c116 => ?_)
            · skip
              refine Ev.aload_n dX4_send_125 rfl ?_
              refine Ev.iload_n dX4_send_126 rfl ?_
              refine Ev.puti (8) dX4_send_127 fl_X4_183 ft_4_8 lx_0 (by decide) rfl rfl ?_
              refine Ev.vret dX4_send_130 rfl ?_
              unfold x_send x_s5
              first | (exfalso; omega) | (repeat (first | rw [if_pos (by omega)] | rw [if_neg (by omega)]))
            · skip
              refine Ev.aload_n dX4_send_119 rfl ?_
              refine Ev.bipush dX4_send_120 ⟨by decide, by decide⟩ (by decide) ?_
              refine Ev.puti (7) dX4_send_122 fl_X4_89 ft_4_7 lx_0 (by decide) rfl rfl ?_
              refine Ev.aload_n dX4_send_125 rfl ?_
              refine Ev.iload_n dX4_send_126 rfl ?_
              refine Ev.puti (8) dX4_send_127 fl_X4_183 ft_4_8 lx_0 (by decide) rfl rfl ?_
              refine Ev.vret dX4_send_130 rfl ?_
              unfold x_send x_s5
              first | (exfalso; omega) | (repeat (first | rw [if_pos (by omega)] | rw [if_neg (by omega)]))
          · skip
            refine Ev.aload_n dX4_send_102 rfl ?_
            refine Ev.iload_n dX4_send_103 rfl ?_
            refine Ev.bipush dX4_send_104 ⟨by decide, by decide⟩ (by decide) ?_
            refine Ev.isub dX4_send_106 (by unfold ev_in; omega) ?_
            refine Ev.Vv1 (I' := jX4_callTalker) ml_X4_219 dX4_send_107 cyX4_callTalker lx_0 rfl (by decide) ⟨by decide, by decide⟩ (by simp) rfl rfl (s_X4_callTalker (by omega) (by omega)) (fun σ' hq => ?_)
            subst hq
            refine Ev.goto (tgt := 125) dX4_send_110 rfl ?_
            refine Ev.aload_n dX4_send_125 rfl ?_
            refine Ev.iload_n dX4_send_126 rfl ?_
            refine Ev.puti (8) dX4_send_127 fl_X4_183 ft_4_8 lx_0 (by decide) rfl rfl ?_
            refine Ev.vret dX4_send_130 rfl ?_
            unfold x_send x_s5
            first | (exfalso; omega) | (repeat (first | rw [if_pos (by omega)] | rw [if_neg (by omega)]))
        · skip
          refine Ev.aload_n dX4_send_89 rfl ?_
          refine Ev.Vv0 (I' := jX4_endListening) ml_X4_92 dX4_send_90 cyX4_endListening lx_0 rfl (by decide) ⟨by decide, by decide⟩ (by simp) rfl rfl (s_X4_endListening (by omega) (by omega)) (fun σ' hq => ?_)
          subst hq
          refine Ev.goto (tgt := 125) dX4_send_93 rfl ?_
          refine Ev.aload_n dX4_send_125 rfl ?_
          refine Ev.iload_n dX4_send_126 rfl ?_
          refine Ev.puti (8) dX4_send_127 fl_X4_183 ft_4_8 lx_0 (by decide) rfl rfl ?_
          refine Ev.vret dX4_send_130 rfl ?_
          unfold x_send x_s5
          first | (exfalso; omega) | (repeat (first | rw [if_pos (by omega)] | rw [if_neg (by omega)]))
      · skip
        refine Ev.aload_n dX4_send_72 rfl ?_
        refine Ev.iload_n dX4_send_73 rfl ?_
        refine Ev.bipush dX4_send_74 ⟨by decide, by decide⟩ (by decide) ?_
        refine Ev.isub dX4_send_76 (by unfold ev_in; omega) ?_
        refine Ev.Vv1 (I' := jX4_callListener) ml_X4_216 dX4_send_77 cyX4_callListener lx_0 rfl (by decide) ⟨by decide, by decide⟩ (by simp) rfl rfl (s_X4_callListener (by omega) (by omega)) (fun σ' hq => ?_)
        subst hq
        refine Ev.goto (tgt := 125) dX4_send_80 rfl ?_
        refine Ev.aload_n dX4_send_125 rfl ?_
        refine Ev.iload_n dX4_send_126 rfl ?_
        refine Ev.puti (8) dX4_send_127 fl_X4_183 ft_4_8 lx_0 (by decide) rfl rfl ?_
        refine Ev.vret dX4_send_130 rfl ?_
        unfold x_send x_s5
        first | (exfalso; omega) | (repeat (first | rw [if_pos (by omega)] | rw [if_neg (by omega)]))
    · skip
      refine Ev.aload_n dX4_send_58 rfl ?_
      refine Ev.iload_n dX4_send_59 rfl ?_
      refine Ev.Vv1 (I' := jX4_obeyPlain) ml_X4_213 dX4_send_60 cyX4_obeyPlain lx_0 rfl (by decide) ⟨by decide, by decide⟩ (by simp) rfl rfl (s_X4_obeyPlain h4 (by omega)) (fun σ' hq => ?_)
      subst hq
      refine Ev.goto (tgt := 125) dX4_send_63 rfl ?_
      refine Ev.aload_n dX4_send_125 rfl ?_
      refine Ev.iload_n dX4_send_126 rfl ?_
      refine Ev.puti (8) dX4_send_127 fl_X4_183 ft_4_8 lx_0 (by decide) rfl rfl ?_
      refine Ev.vret dX4_send_130 rfl ?_
      unfold x_send x_s5
      first | (exfalso; omega) | (repeat (first | rw [if_pos (by omega)] | rw [if_neg (by omega)]))
  · skip
    refine Ev.aload_n dX4_send_40 rfl ?_
    refine Ev.iload_n dX4_send_41 rfl ?_
    refine Ev.bipush dX4_send_42 ⟨by decide, by decide⟩ (by decide) ?_
    refine Ev.isub dX4_send_44 (by unfold ev_in; omega) ?_
    refine Ev.Vv1 (I' := jX4_obeySecond) ml_X4_210 dX4_send_45 cyX4_obeySecond lx_0 rfl (by decide) ⟨by decide, by decide⟩ (by simp) rfl rfl (s_X4_obeySecond h2) (fun σ' hq => ?_)
    subst hq
    first | rw [show x_second (c - 96) (x_s2 c σ) = x_s3 c σ by unfold x_s3; rw [if_pos (by omega)]] | rw [show x_s2 c σ = x_s3 c σ by unfold x_s3; rw [if_neg (by omega)]]
    refine Ev.aload_n dX4_send_48 rfl ?_
    refine Ev.Vv0 (I' := jX4_endNamedAndPrepared) ml_X4_95 dX4_send_49 cyX4_endNamedAndPrepared lx_0 rfl (by decide) ⟨by decide, by decide⟩ (by simp) rfl rfl (s_X4_endNamedAndPrepared (by omega) (by omega)) (fun σ' hq => ?_)
    subst hq
    rw [show it x_enp (x_s3 c σ) (x_s3 c σ 4).toNat = x_s4 c σ from rfl]
    refine Ev.iload_n dX4_send_52 rfl ?_
    refine Ev.bipush dX4_send_53 ⟨by decide, by decide⟩ (by decide) ?_
    refine Ev.icmp_ge (tgt := 66) dX4_send_55 rfl (fun c55 => ?_) (fun c55 => ?_)
    · skip
      refine Ev.iload_n dX4_send_66 rfl ?_
      refine Ev.bipush dX4_send_67 ⟨by decide, by decide⟩ (by decide) ?_
      refine Ev.icmp_ge (tgt := 83) dX4_send_69 rfl (fun c69 => ?_) (fun c69 => ?_)
      · skip
        refine Ev.iload_n dX4_send_83 rfl ?_
        refine Ev.bipush dX4_send_84 ⟨by decide, by decide⟩ (by decide) ?_
        refine Ev.icmp_ne (tgt := 96) dX4_send_86 rfl (fun c86 => ?_) (fun c86 => ?_)
        · skip
          refine Ev.iload_n dX4_send_96 rfl ?_
          refine Ev.bipush dX4_send_97 ⟨by decide, by decide⟩ (by decide) ?_
          refine Ev.icmp_ge (tgt := 113) dX4_send_99 rfl (fun c99 => ?_) (fun c99 => ?_)
          · skip
            refine Ev.iload_n dX4_send_113 rfl ?_
            refine Ev.bipush dX4_send_114 ⟨by decide, by decide⟩ (by decide) ?_
            refine Ev.icmp_ne (tgt := 125) dX4_send_116 rfl (fun c116 => ?_) (fun c116 => ?_)
            · skip
              refine Ev.aload_n dX4_send_125 rfl ?_
              refine Ev.iload_n dX4_send_126 rfl ?_
              refine Ev.puti (8) dX4_send_127 fl_X4_183 ft_4_8 lx_0 (by decide) rfl rfl ?_
              refine Ev.vret dX4_send_130 rfl ?_
              unfold x_send x_s5
              first | (exfalso; omega) | (repeat (first | rw [if_pos (by omega)] | rw [if_neg (by omega)]))
            · skip
              refine Ev.aload_n dX4_send_119 rfl ?_
              refine Ev.bipush dX4_send_120 ⟨by decide, by decide⟩ (by decide) ?_
              refine Ev.puti (7) dX4_send_122 fl_X4_89 ft_4_7 lx_0 (by decide) rfl rfl ?_
              refine Ev.aload_n dX4_send_125 rfl ?_
              refine Ev.iload_n dX4_send_126 rfl ?_
              refine Ev.puti (8) dX4_send_127 fl_X4_183 ft_4_8 lx_0 (by decide) rfl rfl ?_
              refine Ev.vret dX4_send_130 rfl ?_
              unfold x_send x_s5
              first | (exfalso; omega) | (repeat (first | rw [if_pos (by omega)] | rw [if_neg (by omega)]))
          · skip
            refine Ev.aload_n dX4_send_102 rfl ?_
            refine Ev.iload_n dX4_send_103 rfl ?_
            refine Ev.bipush dX4_send_104 ⟨by decide, by decide⟩ (by decide) ?_
            refine Ev.isub dX4_send_106 (by unfold ev_in; omega) ?_
            refine Ev.Vv1 (I' := jX4_callTalker) ml_X4_219 dX4_send_107 cyX4_callTalker lx_0 rfl (by decide) ⟨by decide, by decide⟩ (by simp) rfl rfl (s_X4_callTalker (by omega) (by omega)) (fun σ' hq => ?_)
            subst hq
            refine Ev.goto (tgt := 125) dX4_send_110 rfl ?_
            refine Ev.aload_n dX4_send_125 rfl ?_
            refine Ev.iload_n dX4_send_126 rfl ?_
            refine Ev.puti (8) dX4_send_127 fl_X4_183 ft_4_8 lx_0 (by decide) rfl rfl ?_
            refine Ev.vret dX4_send_130 rfl ?_
            unfold x_send x_s5
            first | (exfalso; omega) | (repeat (first | rw [if_pos (by omega)] | rw [if_neg (by omega)]))
        · skip
          refine Ev.aload_n dX4_send_89 rfl ?_
          refine Ev.Vv0 (I' := jX4_endListening) ml_X4_92 dX4_send_90 cyX4_endListening lx_0 rfl (by decide) ⟨by decide, by decide⟩ (by simp) rfl rfl (s_X4_endListening (by omega) (by omega)) (fun σ' hq => ?_)
          subst hq
          refine Ev.goto (tgt := 125) dX4_send_93 rfl ?_
          refine Ev.aload_n dX4_send_125 rfl ?_
          refine Ev.iload_n dX4_send_126 rfl ?_
          refine Ev.puti (8) dX4_send_127 fl_X4_183 ft_4_8 lx_0 (by decide) rfl rfl ?_
          refine Ev.vret dX4_send_130 rfl ?_
          unfold x_send x_s5
          first | (exfalso; omega) | (repeat (first | rw [if_pos (by omega)] | rw [if_neg (by omega)]))
      · skip
        refine Ev.aload_n dX4_send_72 rfl ?_
        refine Ev.iload_n dX4_send_73 rfl ?_
        refine Ev.bipush dX4_send_74 ⟨by decide, by decide⟩ (by decide) ?_
        refine Ev.isub dX4_send_76 (by unfold ev_in; omega) ?_
        refine Ev.Vv1 (I' := jX4_callListener) ml_X4_216 dX4_send_77 cyX4_callListener lx_0 rfl (by decide) ⟨by decide, by decide⟩ (by simp) rfl rfl (s_X4_callListener (by omega) (by omega)) (fun σ' hq => ?_)
        subst hq
        refine Ev.goto (tgt := 125) dX4_send_80 rfl ?_
        refine Ev.aload_n dX4_send_125 rfl ?_
        refine Ev.iload_n dX4_send_126 rfl ?_
        refine Ev.puti (8) dX4_send_127 fl_X4_183 ft_4_8 lx_0 (by decide) rfl rfl ?_
        refine Ev.vret dX4_send_130 rfl ?_
        unfold x_send x_s5
        first | (exfalso; omega) | (repeat (first | rw [if_pos (by omega)] | rw [if_neg (by omega)]))
    · skip
      refine Ev.aload_n dX4_send_58 rfl ?_
      refine Ev.iload_n dX4_send_59 rfl ?_
      refine Ev.Vv1 (I' := jX4_obeyPlain) ml_X4_213 dX4_send_60 cyX4_obeyPlain lx_0 rfl (by decide) ⟨by decide, by decide⟩ (by simp) rfl rfl (s_X4_obeyPlain h4 (by omega)) (fun σ' hq => ?_)
      subst hq
      refine Ev.goto (tgt := 125) dX4_send_63 rfl ?_
      refine Ev.aload_n dX4_send_125 rfl ?_
      refine Ev.iload_n dX4_send_126 rfl ?_
      refine Ev.puti (8) dX4_send_127 fl_X4_183 ft_4_8 lx_0 (by decide) rfl rfl ?_
      refine Ev.vret dX4_send_130 rfl ?_
      unfold x_send x_s5
      first | (exfalso; omega) | (repeat (first | rw [if_pos (by omega)] | rw [if_neg (by omega)]))
