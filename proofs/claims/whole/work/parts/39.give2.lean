/-! a byte given, whole; a poll -/
theorem gb_rel {b c S v : Int} {σ τ : ev_M} (hX : XI b σ) (h : Bn c σ τ) (hS : ∀ d : Nat, (d : Int) < c → (ev_and (ev_shr S (d : Int)) 1 = 1 ↔ ((d : Int) ≠ σ 7 ∧ σ (1000 + 100 * (d : Int) + 9) ≠ 0))) (hf : ∀ d : Nat, (d : Int) < c → ((d : Int) ≠ σ 7 ∧ σ (1000 + 100 * (d : Int) + 9) ≠ 0) → σ (1000 + 100 * (d : Int) + 50 + 1) < 12) : Bn c (it (x_gb v) σ c.toNat) (it (m_gvb S v) τ c.toNat) ∧ Fx c σ (it (x_gb v) σ c.toNat) ∧ Fm c τ (it (m_gvb S v) τ c.toNat) := by
  have hc := h.1
  have key := it2 (P := fun k σ' τ' => Bn c σ' τ' ∧ Fx c σ σ' ∧ Fm c τ τ' ∧ σ' 7 = σ 7 ∧ (∀ d, 0 ≤ d → d < c → σ' (1000 + 100 * d + 9) = σ (1000 + 100 * d + 9)) ∧ ∀ d, (k : Int) ≤ d → d < c → σ' (1000 + 100 * d + 50 + 1) = σ (1000 + 100 * d + 50 + 1)) (f := x_gb v) (g := m_gvb S v) (σ := σ) (τ := τ) c.toNat ⟨h, Fx.rf, Fm.rf, rfl, fun _ _ _ => rfl, fun _ _ _ => rfl⟩ (by
    intro k σ' τ' hk ⟨g, gx, gm, g7, g9, gs⟩
    have k0 : 0 ≤ (k : Int) := by omega
    have k1 : (k : Int) < c := by omega
    have k6 : (k : Int) < 6 := by omega
    have hb := hS k k1
    have r16 := g.r16 k0 k1
    have e51 := gs k (by omega) k1
    have s0 := hX.d51 k0 k6
    unfold x_gb m_gvb
    rw [g7, g9 k k0 k1]
    by_cases hT : (k : Int) ≠ σ 7 ∧ σ (1000 + 100 * (k : Int) + 9) ≠ 0
    · have hlt := hf k k1 hT
      rw [if_pos hT, if_pos (hb.mpr hT)]
      unfold x_app
      rw [if_neg (by rw [e51]; omega), r16, g.s2]
      show Bn c (ev_up (ev_up (ev_up σ' (1000 + 100 * (k : Int) + 50 + 10 + σ' (1000 + 100 * (k : Int) + 50 + 1)) v) (1000 + 100 * (k : Int) + 50 + 1) (σ' (1000 + 100 * (k : Int) + 50 + 1) + 1)) 42 (σ' 42 + 1)) _ ∧ Fx c σ (ev_up (ev_up (ev_up σ' (1000 + 100 * (k : Int) + 50 + 10 + σ' (1000 + 100 * (k : Int) + 50 + 1)) v) (1000 + 100 * (k : Int) + 50 + 1) (σ' (1000 + 100 * (k : Int) + 50 + 1) + 1)) 42 (σ' 42 + 1)) ∧ _ ∧ ev_up (ev_up (ev_up σ' (1000 + 100 * (k : Int) + 50 + 10 + σ' (1000 + 100 * (k : Int) + 50 + 1)) v) (1000 + 100 * (k : Int) + 50 + 1) (σ' (1000 + 100 * (k : Int) + 50 + 1) + 1)) 42 (σ' 42 + 1) 7 = σ 7 ∧ _
      rw [← e51] at s0 hlt
      refine ⟨((g.uinn k0 k6 (j := σ' (1000 + 100 * (k : Int) + 50 + 1)) (by omega) (by omega) (by omega) (by omega)).u16 k0 k6).us2, ((gx.up ⟨by omega, fun d h0 h1 => by omega⟩).up ⟨by omega, fun d h0 h1 => by omega⟩).up ⟨by omega, fun d h0 h1 => by omega⟩, ((gm.up ⟨by omega, fun d h0 h1 => by omega⟩).up ⟨by omega, fun d h0 h1 => by omega⟩).up ⟨by omega, fun d h0 h1 => by omega⟩, ?_, fun d h0 h1 => ?_, fun d h0 h1 => ?_⟩
      · rw [ev_up_ne (by omega), ev_up_ne (by omega), ev_up_ne (by omega)]; exact g7
      · dsimp only; rw [ev_up_ne (by omega), ev_up_ne (by omega), ev_up_ne (by omega)]; exact g9 d h0 h1
      · dsimp only; rw [ev_up_ne (by omega), ev_up_ne (by omega), ev_up_ne (by omega)]; exact gs d (by omega) h1
    · rw [if_neg hT, if_neg (fun h9 => hT (hb.mp h9))]
      exact ⟨g, gx, gm, g7, g9, fun d h0 h1 => gs d (by omega) h1⟩)
  exact ⟨key.1, key.2.1, key.2.2.1⟩
theorem fxr_no {σ : ev_M} : ∀ {k : Nat}, fxr σ k ≠ 1 → ∀ i : Nat, i < k → ((i : Int) ≠ σ 7 ∧ σ (1000 + 100 * (i : Int) + 9) ≠ 0) → σ (1000 + 100 * (i : Int) + 50 + 1) < 12
  | 0, _, i, hi, _ => by omega
  | k + 1, h, i, hi, ht => by
    have e : fxr σ (k + 1) = (if fxr σ k = 1 then 1 else if ((k : Int) ≠ σ 7 ∧ σ (1000 + 100 * (k : Int) + 9) ≠ 0) ∧ 12 ≤ σ (1000 + 100 * (k : Int) + 50 + 1) then 1 else 0) := rfl
    rw [e] at h
    by_cases h1 : fxr σ k = 1
    · rw [if_pos h1] at h; exact absurd rfl h
    · rw [if_neg h1] at h
      by_cases hik : i = k
      · subst hik
        by_cases h2 : ((i : Int) ≠ σ 7 ∧ σ (1000 + 100 * (i : Int) + 9) ≠ 0) ∧ 12 ≤ σ (1000 + 100 * (i : Int) + 50 + 1)
        · rw [if_pos h2] at h; exact absurd rfl h
        · exact Classical.byContradiction (fun h9 => h2 ⟨ht, by omega⟩)
      · exact fxr_no h1 i (by omega) ht
theorem give_rel {b c : Int} {σ τ : ev_M} (hX : XI b σ) (hM : MI b τ) (hb : b ≤ 700000000) (h : RR c σ τ) : (x_give σ).1 = (p_gives τ).1 ∧ RR c (x_give σ).2 (p_gives τ).2 := by
  have hc := h.1.1
  have tn := tnb_rel hX hM h.1
  have sr := m_slow_rng (set := m_takers τ) hM
  unfold x_give p_gives
  by_cases hz : m_takers τ = 0
  · rw [if_pos hz] at tn
    rw [if_pos tn, if_pos hz]
    exact ⟨rfl, h⟩
  · rw [if_neg hz] at tn
    have hs : x_tnb σ ≠ -2 := by rw [tn]; omega
    rw [if_neg hs, if_neg hz]
    have rg := x_tnb_rng hX
    have rg2 := rg.resolve_left hs
    have t0 : 0 ≤ σ 7 := rg2.2.2.1
    have t1 : σ 7 < c := by have := rg2.2.2.2.1; rw [h.1.c4] at this; exact this
    obtain ⟨p1, p2⟩ := tkset_p hM h.1 t0 t1
    have te := talk_eq h.1
    -- the set of takers is not cut
    have eS : m_takers τ = m_tkset τ := by
      unfold m_takers at hz ⊢
      split
      · next h9 => rw [if_pos h9] at hz; exact absurd rfl hz
      · next h9 =>
        rw [if_neg h9] at hz
        split
        · next h8 => rw [if_pos h8] at hz; exact absurd rfl hz
        · rfl
    have hfx : fxr σ c.toNat ≠ 1 := by
      intro h9
      unfold x_tnb at hs
      rw [h.1.c4, if_pos h9] at hs
      split at hs <;> exact hs rfl
    have hfull : ∀ d : Nat, (d : Int) < c → ((d : Int) ≠ σ 7 ∧ σ (1000 + 100 * (d : Int) + 9) ≠ 0) → σ (1000 + 100 * (d : Int) + 50 + 1) < 12 := fun d hd ht => fxr_no hfx d (by omega) ht
    have en : x_tnb σ = (((m_slow (m_takers τ) τ + 2).toNat : Nat) : Int) := by rw [tn]; omega
    obtain ⟨k1, k2⟩ := ticks_rel h.1 h.2.1 (m_slow (m_takers τ) τ + 2).toNat
    obtain ⟨k3, k4⟩ := ticks_aux hM h.1 (m_slow (m_takers τ) τ + 2).toNat h.2.2.1 h.2.2.2
    rw [← en] at k1 k2 k3 k4
    have hM1 := hM.gtk
    have hX1 := hX.gt hs
    have q7 : x_pass (x_tnb σ) σ 7 = σ 7 := x_pass_o hX (by decide) (by decide) (by decide)
    have q9 : x_pass (x_tnb σ) σ 9 = σ 9 := x_pass_o hX (by decide) (by decide) (by decide)
    have qf9 : ∀ e, 0 ≤ e → x_pass (x_tnb σ) σ (1000 + 100 * e + 9) = σ (1000 + 100 * e + 9) := fun e e0 => x_pass_f e0 (by decide) (by decide) (by decide)
    have qf51 : ∀ e, 0 ≤ e → x_pass (x_tnb σ) σ (1000 + 100 * e + 50 + 1) = σ (1000 + 100 * e + 50 + 1) := fun e e0 => by
      have := x_pass_f (n := x_tnb σ) (σ := σ) (f := 51) e0 (by decide) (by decide) (by decide)
      rw [show 1000 + 100 * e + 51 = 1000 + 100 * e + 50 + 1 by omega] at this
      exact this
    have size15 : σ 9 = 0 → x_pass (x_tnb σ) σ (1000 + 100 * σ 7 + 20 + 1) ≠ 0 := fun h9 => by
      have h8 : σ (1000 + 100 * σ 7 + 20 + 1) ≠ 0 := fun h7 => rg2.2.2.2.2 ⟨h9, h7⟩
      have h15 := h.1.r15 t0 t1
      have hr := hM.h15 t0 (by omega)
      have := m_ticks_15 hM t0 (by omega : σ 7 < 6) (by omega) (m_slow (m_takers τ) τ + 2).toNat
      rw [k1.r15 t0 t1] at this
      omega
    have gt_x : x_gt σ = x_pass (x_tnb σ) σ := rfl
    have gt_m : m_gtk τ = m_ticks τ (m_slow (m_takers τ) τ + 2).toNat := rfl
    rw [← gt_x] at k1 k2 k3 k4 q7 q9 qf9 qf51 size15
    rw [← gt_m] at k1 k3 k4
    have rr1 : RR c (x_gt σ) (m_gtk τ) := ⟨k1, k2, k3, k4⟩
    have pol := k1.pol
    have polr := hM1.s6
    -- the byte, and where it is taken
    have two : x_gv σ = m_gb τ ∧ Bn c (x_g2 σ) (m_g2 τ) ∧ Fx c (x_gt σ) (x_g2 σ) ∧ Fm c (m_gtk τ) (m_g2 τ) ∧ x_g2 σ 7 = σ 7 ∧ ∀ e, 0 ≤ e → x_g2 σ (1000 + 100 * e + 9) = σ (1000 + 100 * e + 9) ∧ x_g2 σ (1000 + 100 * e + 50 + 1) = σ (1000 + 100 * e + 50 + 1) := by
      unfold x_gv m_gb x_g2 m_g2
      rw [te]
      by_cases hp : x_gt σ 9 = 0
      · rw [if_pos hp, if_pos hp, if_neg (by omega), if_neg (by omega)]
        have s12 := (hX1.d21 t0 (by omega)).2
        obtain ⟨a1, a2, a3, a4, a5, a6⟩ := rmv_rel (r := 0) (w := 15) (o := 20) k1 t0 t1 (Or.inl ⟨rfl, rfl, rfl⟩) (size15 (by rw [← q9]; exact hp)) s12
        exact ⟨a1, a2, a3, a4, by rw [a5, q7], fun e e0 => ⟨by rw [(a6 e e0).1, qf9 e e0], by rw [(a6 e e0).2 rfl, qf51 e e0]⟩⟩
      · rw [if_neg hp, if_neg hp, if_pos (by omega), if_pos (by omega)]
        have r9 := k1.r9 t0 t1
        have r10 := k1.r10 t0 t1
        have ar := hM1.h10 t0 (by omega : σ 7 < 6)
        refine ⟨?_, k1.u10 t0 (by omega), Fx.rf.up ⟨by omega, fun d h0 h1 => by omega⟩, Fm.rf.up ⟨by omega, fun d h0 h1 => by omega⟩, by rw [ev_up_ne (by omega)]; exact q7, fun e e0 => ⟨by rw [ev_up_ne (by omega)]; exact qf9 e e0, by rw [ev_up_ne (by omega)]; exact qf51 e e0⟩⟩
        unfold x_pb
        rw [r9, r10]
        rw [r10] at ar
        split <;> omega
    obtain ⟨w1, w2, w3, w4, w5, w6⟩ := two
    have hX2 := hX.g2 hs
    have hS : ∀ d : Nat, (d : Int) < c → (ev_and (ev_shr (m_takers τ) (d : Int)) 1 = 1 ↔ ((d : Int) ≠ x_g2 σ 7 ∧ x_g2 σ (1000 + 100 * (d : Int) + 9) ≠ 0)) := fun d hd => by
      rw [eS, w5, (w6 d (by omega)).1]
      exact p1 d hd
    obtain ⟨v1, v2, v3⟩ := gb_rel (v := m_gb τ) hX2 w2 hS (fun d hd ht => by
      rw [w5, (w6 d (by omega)).1] at ht
      rw [(w6 d (by omega)).2]
      exact hfull d hd ht)
    refine ⟨w1, ?_⟩
    show RR c (ev_up (x_g3 σ) 41 (x_g3 σ 41 + 1)) (ev_up (m_g3 τ) 571 (m_g3 τ 571 + 1))
    have ex : x_g3 σ = it (x_gb (m_gb τ)) (x_g2 σ) c.toNat := by unfold x_g3; rw [w1, h.1.c4]
    have em : m_g3 τ = it (m_gvb (m_takers τ) (m_gb τ)) (m_g2 τ) c.toNat := by unfold m_g3; rw [hc.2.2]
    rw [ex, em, v1.s1]
    exact rr1.of v1.us1 ((w3.tr v2).up ⟨by omega, fun d h0 h1 => by omega⟩) ((w4.tr v3).up ⟨by omega, fun d h0 h1 => by omega⟩)
theorem sad_rel {b c g d : Int} {σ τ : ev_M} (hX : XI b σ) (hM : MI b τ) (hb : b ≤ 600000000) (h : RR c σ τ) (h0 : 0 ≤ d) (h1 : d < c) (g0 : 0 ≤ g) (g1 : g ≤ 64) : RR c (x_sad g d σ) (m_sendsTo d g τ) := by
  have hc := h.1.1
  have r1 := h.1.r1 h0 h1
  have a := hM.h1 h0 (by omega : d < 6)
  rw [r1] at a
  have s1 := send_rel (q := g + σ (1000 + 100 * d + 3)) hX hM (by omega) (by omega) (by omega) h
  have hX1 := hX.send (c := g + σ (1000 + 100 * d + 3)) (by omega) (by omega) (by omega)
  have hM1 := hM.sends' (c := g + σ (1000 + 100 * d + 3)) (by omega) (by omega) (by omega)
  have r2 := s1.1.r2 h0 h1
  have a2 := hM1.h2 h0 (by omega : d < 6)
  rw [r2] at a2
  unfold x_sad m_sendsTo
  rw [r1, r2]
  by_cases hs : x_send (g + σ (1000 + 100 * d + 3)) σ (1000 + 100 * d + 4) = 31
  · rw [if_pos hs, if_neg (by omega)]
    exact s1
  · rw [if_neg hs, if_pos (by omega)]
    exact send_rel (b := b + 76) (hX1.mono (by omega)) hM1 (by omega) (by omega) (by omega) s1
theorem pl_rel {b c : Int} {σ τ : ev_M} (hX : XI b σ) (hM : MI b τ) (hb : b ≤ 400000000) (h : RR c σ τ) : ∀ k : Nat, (k : Int) ≤ c → (xpr σ k).1 = (plr τ k).1 ∧ ((plr τ k).1 = -4 ∨ 0 ≤ (plr τ k).1) ∧ RR c (xpr σ k).2 (plr τ k).2
  | 0, _ => ⟨rfl, Or.inl rfl, h⟩
  | k + 1, hk => by
    obtain ⟨e1, e2, e3⟩ := pl_rel hX hM hb h k (by omega)
    have hc := h.1.1
    have hXk := (xpr_inv hX (by omega) k (by omega)).1
    have hMk := (plr_inv hM (by omega) k (by omega)).1
    have hXm := hXk.mono (b2 := b + 236 * (k : Int)) (by omega)
    have ex : xpr σ (k + 1) = if (xpr σ k).1 ≠ -4 then xpr σ k else if (k : Int) = (xpr σ k).2 6 then xpr σ k else (if 64 ≤ (x_give (x_sad 64 (k : Int) (xpr σ k).2)).1 then (k : Int) else -4, (x_give (x_sad 64 (k : Int) (xpr σ k).2)).2) := rfl
    have em : plr τ (k + 1) = if 0 ≤ (plr τ k).1 then plr τ k else if (k : Int) = (plr τ k).2 5 then plr τ k else (if 64 ≤ (p_gives (m_sendsTo (k : Int) 64 (plr τ k).2)).1 then (k : Int) else -4, (p_gives (m_sendsTo (k : Int) 64 (plr τ k).2)).2) := rfl
    rw [ex, em]
    by_cases hf : (plr τ k).1 = -4
    · rw [if_neg (by rw [e1]; omega : ¬ (xpr σ k).1 ≠ -4), if_neg (by omega : ¬ 0 ≤ (plr τ k).1), e3.1.chg]
      by_cases hch : (k : Int) = (xpr σ k).2 6
      · rw [if_pos hch, if_pos hch]
        exact ⟨e1, e2, e3⟩
      · rw [if_neg hch, if_neg hch]
        have s := sad_rel (g := 64) hXm hMk (by omega) e3 (by omega : 0 ≤ (k : Int)) (by omega) (by decide) (by decide)
        have hX2 := hXm.sad (g := 64) (d := (k : Int)) (by omega) (by omega) (by omega) (by decide) (by decide)
        have hM2 := hMk.sendsTo (base := 64) (d := (k : Int)) (by omega) (by omega) (by omega) (by decide) (by decide)
        obtain ⟨v1, v2⟩ := give_rel (b := b + 236 * (k : Int) + 152) (hX2.mono (by omega)) hM2 (by omega) s
        rw [v1]
        refine ⟨rfl, ?_, v2⟩
        dsimp only
        split
        · right; omega
        · left; rfl
    · rw [if_pos (by rw [e1]; exact hf), if_pos (by omega)]
      exact ⟨e1, e2, e3⟩
theorem poll_rel {b c : Int} {σ τ : ev_M} (hX : XI b σ) (hM : MI b τ) (hb : b ≤ 300000000) (h : RR c σ τ) : (x_poll σ).1 = (p_poll τ).1 ∧ RR c (x_poll σ).2 (p_poll τ).2 := by
  have hc := h.1.1
  have c4 := h.1.c4
  have u0 : RR c (ev_up σ 44 (σ 44 + 1)) (ev_up τ 574 (τ 574 + 1)) := by
    rw [h.1.s4]
    exact h.of h.1.us4 (Fx.rf.up ⟨by omega, fun d h0 h1 => by omega⟩) (Fm.rf.up ⟨by omega, fun d h0 h1 => by omega⟩)
  have r1 : RR c (x_pl1 σ) (m_pl1 τ) := send_rel (q := 63) (b := b + 1) hX.pl0 hM.pl0 (by omega) (by decide) (by decide) u0
  have hX1 := (hX.pl1 (by omega)).1
  have hM1 := (hM.pl1 (by omega)).1
  have hX1' := hX1.mono (b2 := b + 77) (by omega)
  have ch := r1.1.chg
  have chr := r1.1.2.2.2.2.2.2
  have r2a : RR c (x_sad 32 (x_pl1 σ 6) (x_pl1 σ)) (m_sendsTo (m_pl1 τ 5) 32 (m_pl1 τ)) := by
    rw [ch]
    exact sad_rel hX1' hM1 (by omega) r1 chr.1 chr.2 (by decide) (by decide)
  have hX2a := hX1'.sad (g := 32) (d := x_pl1 σ 6) (by omega) chr.1 (by omega) (by decide) (by decide)
  have hM2a := hM1.sendsTo (base := 32) (d := m_pl1 τ 5) (by omega) (by omega) (by omega) (by decide) (by decide)
  have r2 : RR c (x_pl2 σ) (m_pl2 τ) := send_rel (q := 24) (b := b + 77 + 152) (hX2a.mono (by omega)) hM2a (by omega) (by decide) (by decide) r2a
  have hX2 := ((hX.pl2 (by omega)).1).mono (b2 := b + 305) (by omega)
  have hM2 := (hM.pl2 (by omega)).1
  obtain ⟨p1, p2, p3⟩ := pl_rel hX2 hM2 (by omega) r2 c.toNat (by omega)
  have hX3 := ((xpr_inv hX2 (by omega) c.toNat (by omega)).1).mono (b2 := b + 305 + 236 * 6) (by omega)
  have hM3 := ((plr_inv hM2 (by omega) c.toNat (by omega)).1).mono (b2 := b + 305 + 236 * 6) (by omega)
  have s1 := send_rel (q := 25) hX3 hM3 (by omega) (by decide) (by decide) p3
  have hX4 := (hX3.send (c := 25) (by omega) (by decide) (by decide)).mono (b2 := b + 305 + 236 * 6 + 76) (by omega)
  have hM4 := hM3.sends' (c := 25) (by omega) (by decide) (by decide)
  have s2 := send_rel (q := 95) hX4 hM4 (by omega) (by decide) (by decide) s1
  unfold x_poll p_poll x_pl3 m_pl3
  rw [c4, hc.2.2, p1]
  refine ⟨rfl, ?_⟩
  show RR c (if (plr (m_pl2 τ) c.toNat).1 = -4 then _ else _) _
  by_cases hf : (plr (m_pl2 τ) c.toNat).1 = -4
  · rw [if_pos hf, if_pos (by omega)]
    refine s2.of ?_ Fx.rf (Fm.rf.up ⟨by omega, fun d h0 h1 => by omega⟩)
    have e : ev_up (m_sends 95 (m_sends 25 (plr (m_pl2 τ) c.toNat).2)) 575 (m_sends 95 (m_sends 25 (plr (m_pl2 τ) c.toNat).2) 575 + 0) = m_sends 95 (m_sends 25 (plr (m_pl2 τ) c.toNat).2) := by
      funext n
      by_cases hn : n = 575
      · rw [hn, ev_up_eq]; omega
      · rw [ev_up_ne hn]
    rw [e]
    exact s2.1
  · rw [if_neg hf, if_neg (by omega), s2.1.s5]
    exact s2.of s2.1.us5 (Fx.rf.up ⟨by omega, fun d h0 h1 => by omega⟩) (Fm.rf.up ⟨by omega, fun d h0 h1 => by omega⟩)
