/-! bytes given -/
def Fx (c : Int) (σ σ' : ev_M) : Prop := σ' 5 = σ 5 ∧ ∀ d, 0 ≤ d → d < c → σ' (1000 + 100 * d + 17) = σ (1000 + 100 * d + 17) ∧ σ' (1000 + 100 * d + 13) = σ (1000 + 100 * d + 13) ∧ σ' (1000 + 100 * d + 12) = σ (1000 + 100 * d + 12)
def Fm (c : Int) (τ τ' : ev_M) : Prop := τ' 9 = τ 9 ∧ ∀ d, 0 ≤ d → d < c → τ' (300 + (18 * d + 17)) = τ (300 + (18 * d + 17))
theorem RR.of {c : Int} {σ τ σ' τ' : ev_M} (h : RR c σ τ) (hb : Bn c σ' τ') (fx : Fx c σ σ') (fm : Fm c τ τ') : RR c σ' τ' := ⟨hb, h.2.1.fr fx.1 (fun d h0 h1 => (fx.2 d h0 h1).1), h.2.2.1.fr (fun d h0 h1 => (fx.2 d h0 h1).2.1) fm.2, h.2.2.2.fr (fun d h0 h1 => (fx.2 d h0 h1).2.2) fm.1⟩
theorem Fx.rf {c : Int} {σ : ev_M} : Fx c σ σ := ⟨rfl, fun _ _ _ => ⟨rfl, rfl, rfl⟩⟩
theorem Fm.rf {c : Int} {τ : ev_M} : Fm c τ τ := ⟨rfl, fun _ _ _ => rfl⟩
theorem Fx.tr {c : Int} {σ σ' σ'' : ev_M} (h : Fx c σ σ') (g : Fx c σ' σ'') : Fx c σ σ'' := ⟨by rw [g.1, h.1], fun d h0 h1 => by rw [(g.2 d h0 h1).1, (g.2 d h0 h1).2.1, (g.2 d h0 h1).2.2]; exact h.2 d h0 h1⟩
theorem Fm.tr {c : Int} {τ τ' τ'' : ev_M} (h : Fm c τ τ') (g : Fm c τ' τ'') : Fm c τ τ'' := ⟨by rw [g.1, h.1], fun d h0 h1 => by rw [g.2 d h0 h1]; exact h.2 d h0 h1⟩
theorem Fx.up {c n v : Int} {σ σ' : ev_M} (h : Fx c σ σ') (hn : n ≠ 5 ∧ ∀ d, 0 ≤ d → d < c → n ≠ 1000 + 100 * d + 17 ∧ n ≠ 1000 + 100 * d + 13 ∧ n ≠ 1000 + 100 * d + 12) : Fx c σ (ev_up σ' n v) := ⟨by rw [ev_up_ne (Ne.symm hn.1)]; exact h.1, fun d h0 h1 => by
  have := hn.2 d h0 h1
  rw [ev_up_ne (Ne.symm this.1), ev_up_ne (Ne.symm this.2.1), ev_up_ne (Ne.symm this.2.2)]
  exact h.2 d h0 h1⟩
theorem Fm.up {c n v : Int} {τ τ' : ev_M} (h : Fm c τ τ') (hn : n ≠ 9 ∧ ∀ d, 0 ≤ d → d < c → n ≠ 300 + (18 * d + 17)) : Fm c τ (ev_up τ' n v) := ⟨by rw [ev_up_ne (Ne.symm hn.1)]; exact h.1, fun d h0 h1 => by
  rw [ev_up_ne (Ne.symm (hn.2 d h0 h1))]
  exact h.2 d h0 h1⟩
theorem tkb0 : ∀ (s : Fin 64) (t d : Fin 6), ev_and (ev_shr (ev_and ((s : Nat) : Int) (ev_xor (ev_shl 1 ((t : Nat) : Int)) (-1))) ((d : Nat) : Int)) 1 = (if (d : Nat) = (t : Nat) then 0 else ev_and (ev_shr ((s : Nat) : Int) ((d : Nat) : Int)) 1) ∧ 0 ≤ ev_and ((s : Nat) : Int) (ev_xor (ev_shl 1 ((t : Nat) : Int)) (-1)) ∧ ev_and ((s : Nat) : Int) (ev_xor (ev_shl 1 ((t : Nat) : Int)) (-1)) < 64 := by decide +kernel
theorem bz0 : ∀ s : Fin 64, (∀ d : Fin 6, ev_and (ev_shr ((s : Nat) : Int) ((d : Nat) : Int)) 1 = 0) → (s : Nat) = 0 := by decide +kernel
theorem bh0 : ∀ (n : Fin 7) (s : Fin 64) (d : Fin 6), (s : Nat) < 2 ^ (n : Nat) → (n : Nat) ≤ (d : Nat) → ev_and (ev_shr ((s : Nat) : Int) ((d : Nat) : Int)) 1 = 0 := by decide +kernel
theorem pw6 : ∀ n : Fin 7, ((2 ^ (n : Nat) : Nat) : Int) = 2 ^ (n : Nat) ∧ (2 : Int) ^ (n : Nat) ≤ 64 := by decide
/-- the set of takers, by its bits -/
theorem tkset_p {b c : Int} {σ τ : ev_M} (hM : MI b τ) (h : Bn c σ τ) (t0 : 0 ≤ σ 7) (t1 : σ 7 < c) : (∀ d : Nat, (d : Int) < c → (ev_and (ev_shr (m_tkset τ) (d : Int)) 1 = 1 ↔ ((d : Int) ≠ σ 7 ∧ σ (1000 + 100 * (d : Int) + 9) ≠ 0))) ∧ (m_tkset τ = 0 ↔ ∀ d : Nat, (d : Int) < c → ¬ ((d : Int) ≠ σ 7 ∧ σ (1000 + 100 * (d : Int) + 9) ≠ 0)) := by
  have hc := h.1
  have e : m_tkset τ = ev_and (lsr τ c.toNat) (ev_xor (ev_shl 1 (σ 7)) (-1)) := by
    unfold m_tkset m_lis
    rw [talk_eq h, if_neg (by omega), hc.2.2]
  obtain ⟨g1, g2, g3⟩ := gbt_p (f := fun k => τ (300 + (18 * (k : Int) + 6))) c.toNat (by omega) (fun k hk => by have := hM.h6 (d := (k : Int)) (by omega) (by omega); omega)
  rw [← lsr_g] at g1 g2 g3
  obtain ⟨p1, p2⟩ := pw6 ⟨c.toNat, by omega⟩
  simp only at p1 p2
  generalize hS : lsr τ c.toNat = L at *
  have hL : ((L.toNat : Nat) : Int) = L := by omega
  have ht : (((σ 7).toNat : Nat) : Int) = σ 7 := by omega
  have tb : ∀ d : Nat, d < 6 → ev_and (ev_shr (m_tkset τ) (d : Int)) 1 = (if (d : Int) = σ 7 then 0 else ev_and (ev_shr L (d : Int)) 1) ∧ 0 ≤ m_tkset τ ∧ m_tkset τ < 64 := fun d hd => by
    have := tkb0 ⟨L.toNat, by omega⟩ ⟨(σ 7).toNat, by omega⟩ ⟨d, hd⟩
    simp only [hL, ht] at this
    rw [e]
    refine ⟨?_, this.2⟩
    rw [this.1]
    by_cases h9 : (d : Int) = σ 7
    · rw [if_pos h9, if_pos (by omega)]
    · rw [if_neg h9, if_neg (by omega)]
  have fb : ∀ d : Nat, (d : Int) < c → (ev_and (ev_shr (m_tkset τ) (d : Int)) 1 = 1 ↔ ((d : Int) ≠ σ 7 ∧ σ (1000 + 100 * (d : Int) + 9) ≠ 0)) := fun d hd => by
    have hr := hM.h6 (d := (d : Int)) (by omega) (by omega)
    rw [(tb d (by omega)).1, g3 d (by omega), h.r6 (by omega) hd]
    rw [h.r6 (by omega) hd] at hr
    by_cases h9 : (d : Int) = σ 7
    · rw [if_pos h9]
      exact ⟨fun h8 => by omega, fun h8 => absurd h9 h8.1⟩
    · rw [if_neg h9]
      exact ⟨fun h8 => ⟨h9, by omega⟩, fun h8 => by have := h8.2; omega⟩
  refine ⟨fb, fun hz d hd h9 => ?_, fun hz => ?_⟩
  · have := (fb d hd).mpr h9
    rw [hz] at this
    have b0 := (bit63 ⟨d, by omega⟩).2
    simp only at b0
    omega
  · have r := tb 0 (by decide)
    have := bz0 ⟨(m_tkset τ).toNat, by omega⟩ (fun d => by
      have er : (((m_tkset τ).toNat : Nat) : Int) = m_tkset τ := by omega
      simp only [er]
      by_cases hd : ((d : Nat) : Int) < c
      · have h1 := (tb d d.2).1
        rw [h1]
        by_cases h9 : ((d : Nat) : Int) = σ 7
        · rw [if_pos h9]
        · rw [if_neg h9, g3 d (by omega), h.r6 (by omega) hd]
          have := hz d hd
          exact Classical.byContradiction (fun h8 => this ⟨h9, h8⟩)
      · rw [(tb d d.2).1]
        split
        · rfl
        · have := bh0 ⟨c.toNat, by omega⟩ ⟨L.toNat, by omega⟩ d
          simp only [hL] at this
          exact this (by omega) (by omega))
    simp only at this
    omega
theorem fl_rel {b c S : Int} {σ τ : ev_M} (hX : XI b σ) (h : Bn c σ τ) (hS : ∀ d : Nat, (d : Int) < c → (ev_and (ev_shr S (d : Int)) 1 = 1 ↔ ((d : Int) ≠ σ 7 ∧ σ (1000 + 100 * (d : Int) + 9) ≠ 0))) : ∀ n : Nat, (n : Int) ≤ c → flr S τ n = fxr σ n
  | 0, _ => rfl
  | n + 1, hn => by
    have hc := h.1
    have ih := fl_rel hX h hS n (by omega)
    have s := hX.d51 (i := (n : Int)) (by omega) (by omega)
    have r := h.r16 (d := (n : Int)) (by omega) (by omega)
    have b := hS n (by omega)
    show (if flr S τ n = 1 then 1 else if ev_and (ev_shr S (n : Int)) 1 = 1 ∧ τ (300 + (18 * (n : Int) + 16)) = 12 then 1 else 0) = (if fxr σ n = 1 then (1 : Int) else if ((n : Int) ≠ σ 7 ∧ σ (1000 + 100 * (n : Int) + 9) ≠ 0) ∧ 12 ≤ σ (1000 + 100 * (n : Int) + 50 + 1) then 1 else 0)
    rw [ih, r]
    by_cases h1 : fxr σ n = 1
    · rw [if_pos h1, if_pos h1]
    · rw [if_neg h1, if_neg h1]
      by_cases h2 : ((n : Int) ≠ σ 7 ∧ σ (1000 + 100 * (n : Int) + 9) ≠ 0) ∧ 12 ≤ σ (1000 + 100 * (n : Int) + 50 + 1)
      · rw [if_pos h2, if_pos ⟨b.mpr h2.1, by omega⟩]
      · rw [if_neg h2, if_neg (fun h9 => h2 ⟨b.mp h9.1, by omega⟩)]
theorem gs_rel {c S : Int} {σ τ : ev_M} (h : Bn c σ τ) (hS : ∀ d : Nat, (d : Int) < c → (ev_and (ev_shr S (d : Int)) 1 = 1 ↔ ((d : Int) ≠ σ 7 ∧ σ (1000 + 100 * (d : Int) + 9) ≠ 0))) : ∀ n : Nat, (n : Int) ≤ c → slr S τ n = gsr σ n
  | 0, _ => rfl
  | n + 1, hn => by
    have ih := gs_rel h hS n (by omega)
    have r := h.r3 (d := (n : Int)) (by omega) (by omega)
    have b := hS n (by omega)
    show (if ev_and (ev_shr S (n : Int)) 1 = 1 ∧ slr S τ n < τ (300 + (18 * (n : Int) + 3)) then τ (300 + (18 * (n : Int) + 3)) else slr S τ n) = (if (n : Int) ≠ σ 7 ∧ σ (1000 + 100 * (n : Int) + 9) ≠ 0 then (if gsr σ n < σ (1000 + 100 * (n : Int) + 5) then σ (1000 + 100 * (n : Int) + 5) else gsr σ n) else gsr σ n)
    rw [ih, r]
    by_cases h2 : (n : Int) ≠ σ 7 ∧ σ (1000 + 100 * (n : Int) + 9) ≠ 0
    · rw [if_pos h2]
      by_cases h3 : gsr σ n < σ (1000 + 100 * (n : Int) + 5)
      · rw [if_pos h3, if_pos ⟨b.mpr h2, h3⟩]
      · rw [if_neg h3, if_neg (fun h9 => h3 h9.2)]
    · rw [if_neg h2, if_neg (fun h9 => h2 (b.mp h9.1))]
theorem gs_zero {c : Int} {σ τ : ev_M} (h : Bn c σ τ) : ∀ n : Nat, (n : Int) ≤ c → 0 ≤ gsr σ n ∧ (gsr σ n = 0 ↔ ∀ d : Nat, d < n → ¬ ((d : Int) ≠ σ 7 ∧ σ (1000 + 100 * (d : Int) + 9) ≠ 0))
  | 0, _ => ⟨Int.le_refl 0, fun _ d hd => by omega, fun _ => rfl⟩
  | n + 1, hn => by
    obtain ⟨i0, i1⟩ := gs_zero h n (by omega)
    have p := (h.2.2.2.2.1.2 n (by omega) (by omega)).1
    have e : gsr σ (n + 1) = (if (n : Int) ≠ σ 7 ∧ σ (1000 + 100 * (n : Int) + 9) ≠ 0 then (if gsr σ n < σ (1000 + 100 * (n : Int) + 5) then σ (1000 + 100 * (n : Int) + 5) else gsr σ n) else gsr σ n) := rfl
    rw [e]
    by_cases h2 : (n : Int) ≠ σ 7 ∧ σ (1000 + 100 * (n : Int) + 9) ≠ 0
    · rw [if_pos h2]
      refine ⟨by split <;> omega, fun h9 => ?_, fun h9 => absurd h2 (h9 n (by omega))⟩
      exfalso
      split at h9 <;> omega
    · rw [if_neg h2]
      refine ⟨i0, fun h9 d hd => ?_, fun h9 => i1.mpr (fun d hd => h9 d (by omega))⟩
      by_cases hdn : d = n
      · rw [hdn]; exact h2
      · exact i1.mp h9 d (by omega)
theorem tnb_rel {b c : Int} {σ τ : ev_M} (hX : XI b σ) (hM : MI b τ) (h : Bn c σ τ) : x_tnb σ = if m_takers τ = 0 then -2 else m_slow (m_takers τ) τ + 2 := by
  have hc := h.1
  have ht := h.2.2.2.1.1
  unfold x_tnb m_takers
  rw [talk_eq h, h.pol, h.c4, hc.2.2]
  by_cases t0 : 0 ≤ σ 7 ∧ σ 7 < c
  · obtain ⟨s1, s2⟩ := tkset_p hM h t0.1 t0.2
    have e15 := h.r15 t0.1 t0.2
    obtain ⟨z0, z1⟩ := gs_zero h c.toNat (by omega)
    have hz : m_tkset τ = 0 ↔ gsr σ c.toNat = 0 := by
      rw [s2, z1]
      exact ⟨fun h9 d hd => h9 d (by omega), fun h9 d hd => h9 d (by omega)⟩
    have ef := fl_rel hX h s1 c.toNat (by omega)
    have eg := gs_rel h s1 c.toNat (by omega)
    rw [e15, ef]
    by_cases p1 : σ 9 = 0 ∧ σ (1000 + 100 * σ 7 + 20 + 1) = 0
    · rw [if_pos (Or.inr p1), if_pos (Or.inr p1), if_pos rfl]
    · rw [if_neg (fun h9 => by rcases h9 with h9 | h9; exact h9 t0; exact p1 h9)]
      by_cases p2 : m_tkset τ = 0
      · rw [if_pos (Or.inl p2), if_pos rfl, if_pos (hz.mp p2)]
        split <;> rfl
      · have hno : ¬ (m_tkset τ = 0 ∨ (σ 9 = 0 ∧ σ (1000 + 100 * σ 7 + 20 + 1) = 0)) := fun h9 => by rcases h9 with h9 | h9; exact p2 h9; exact p1 h9
        rw [if_neg hno]
        by_cases p3 : fxr σ c.toNat = 1
        · rw [if_pos p3, if_pos p3, if_pos rfl]
        · rw [if_neg p3, if_neg p3, if_neg p2, if_neg (fun h9 => p2 (hz.mpr h9))]
          unfold m_slow
          rw [hc.2.2, eg]
  · rw [if_pos (Or.inl t0)]
    have : m_tkset τ = 0 := by
      unfold m_tkset
      rw [talk_eq h, if_pos (by omega)]
    rw [if_pos (Or.inl this), if_pos rfl]
theorem Bn.sh {c d k lo lm r : Int} {σ τ : ev_M} (h : Bn c σ τ) (h0 : 0 ≤ d) (h1 : d < 6) (k1 : k ≤ 11) (hr : (r = 0 ∧ lo = 1000 + 100 * d + 30) ∨ (r = 12 ∧ lo = 1000 + 100 * d + 60)) (hl : lm = 420 + 24 * d + r) : Bn c (m_sh lo k σ) (m_sh lm k τ) := by
  obtain ⟨⟨a1, a2, a3⟩, b, s, t, f, g, i1, i2⟩ := h
  have ex : ∀ n, (n < 1000 ∨ (∃ e f, 0 ≤ f ∧ f < 22 ∧ n = 1000 + 100 * e + f)) → m_sh lo k σ n = σ n := fun n hn => sh_o (by rcases hn with hn | ⟨e, f, f0, f1, hn⟩ <;> omega)
  have em : ∀ n, n < 420 ∨ 564 ≤ n → m_sh lm k τ n = τ n := fun n hn => sh_o (by omega)
  refine ⟨⟨a1, a2, by rw [em 2 (by omega)]; exact a3⟩, ?_, s.fr (fun e e0 e1 => ex _ (Or.inr ⟨e, 14, by decide, by decide, rfl⟩)) (fun e e0 e1 => ex _ (Or.inr ⟨e, 15, by decide, by decide, rfl⟩)) (fun e e0 e1 => em _ (by omega)), t.fr (ex 7 (by omega)) (fun e e0 e1 => em _ (by omega)), f.fr (fun e e0 e1 => ex _ (Or.inr ⟨e, 3, by decide, by decide, rfl⟩)) (fun e e0 e1 => ex _ (Or.inr ⟨e, 4, by decide, by decide, rfl⟩)) (fun e e0 e1 => ex _ (Or.inr ⟨e, 5, by decide, by decide, rfl⟩)), g.fr (fun n hn => ex _ (by omega)) (fun n n0 n1 => em _ (by omega)), by rw [ex 6 (by omega)]; exact ⟨i1, i2⟩⟩
  have lcj : ∀ j, 0 ≤ j → j < 12 → rel 6 (lm + j) ∧ lc (lm + j) = lo + j := fun j j0 j1 => by
    rcases hr with ⟨r0, hlo⟩ | ⟨r0, hlo⟩
    · exact lc_out h0 h1 j0 j1 (by omega) (by omega)
    · exact lc_inn h0 h1 j0 j1 (by omega) (by omega)
  intro n hn
  have h6 := rel6 a2 hn
  by_cases hin : lm ≤ n ∧ n < lm + k
  · have e1 := (lcj (n - lm) (by omega) (by omega)).2
    have e2 := lcj (n + 1 - lm) (by omega) (by omega)
    rw [show lm + (n - lm) = n by omega] at e1
    rw [show lm + (n + 1 - lm) = n + 1 by omega] at e2
    have e3 : m_sh lm k τ n = τ (n + 1) := if_pos hin
    have e4 : m_sh lo k σ (lc n) = σ (lc n + 1) := by rw [e1]; exact if_pos (by omega)
    rw [e3, e4, b (n + 1) (by unfold rel; omega), e2.2, e1]
    congr 1
    omega
  · rw [sh_o (by omega), sh_o (n := lc n)]
    · exact b n hn
    · by_cases h9 : lo ≤ lc n ∧ lc n < lo + k
      · have e1 := lcj (lc n - lo) (by omega) (by omega)
        have := lc_inj h6 e1.1 (by rw [e1.2]; omega)
        omega
      · omega
theorem sh_Fx {c d k lo : Int} {σ : ev_M} (h0 : 0 ≤ d) (k1 : k ≤ 11) (hr : lo = 1000 + 100 * d + 30 ∨ lo = 1000 + 100 * d + 60) : Fx c σ (m_sh lo k σ) := ⟨sh_o (by omega), fun e e0 e1 => ⟨sh_o (by omega), sh_o (by omega), sh_o (by omega)⟩⟩
theorem sh_Fm {c k lm : Int} {τ : ev_M} (h0 : 420 ≤ lm) (hc : c ≤ 6) : Fm c τ (m_sh lm k τ) := ⟨sh_o (by omega), fun e e0 e1 => sh_o (by omega)⟩
/-- the first byte of a row is taken out -/
theorem rmv_rel {c d r w o : Int} {σ τ : ev_M} (h : Bn c σ τ) (h0 : 0 ≤ d) (h1 : d < c) (hr : (r = 0 ∧ w = 15 ∧ o = 20) ∨ (r = 12 ∧ w = 16 ∧ o = 50)) (s1 : σ (1000 + 100 * d + o + 1) ≠ 0) (s2 : σ (1000 + 100 * d + o + 1) ≤ 12) : (x_rmv (1000 + 100 * d + o) σ).1 = τ (420 + (24 * d + r)) ∧ Bn c (x_rmv (1000 + 100 * d + o) σ).2 (m_first d r w τ) ∧ Fx c σ (x_rmv (1000 + 100 * d + o) σ).2 ∧ Fm c τ (m_first d r w τ) ∧ (x_rmv (1000 + 100 * d + o) σ).2 7 = σ 7 ∧ ∀ e, 0 ≤ e → (x_rmv (1000 + 100 * d + o) σ).2 (1000 + 100 * e + 9) = σ (1000 + 100 * e + 9) ∧ (r = 0 → (x_rmv (1000 + 100 * d + o) σ).2 (1000 + 100 * e + 50 + 1) = σ (1000 + 100 * e + 50 + 1)) := by
  have hc := h.1
  have e : x_rmv (1000 + 100 * d + o) σ = (σ (1000 + 100 * d + o + 10 + 0), m_sh (1000 + 100 * d + o + 10) (σ (1000 + 100 * d + o + 1) - 1) (ev_up σ (1000 + 100 * d + o + 1) (σ (1000 + 100 * d + o + 1) - 1))) := if_neg s1
  rw [e]
  unfold m_first
  rcases hr with ⟨rfl, rfl, rfl⟩ | ⟨rfl, rfl, rfl⟩
  · have e15 := h.r15 h0 h1
    refine ⟨(h.out h0 (by omega) (j := 0) (by decide) (by decide) (by omega) (by omega)).symm, ?_, (Fx.rf.up ⟨by omega, fun e e0 e1 => by omega⟩).tr (sh_Fx h0 (by omega) (Or.inl (by omega))), (Fm.rf.up ⟨by omega, fun e e0 e1 => by omega⟩).tr (sh_Fm (by omega) (by omega)), ?_, fun e e0 => ⟨?_, fun _ => ?_⟩⟩
    · rw [e15]
      exact (h.u15 h0 (by omega)).sh h0 (by omega) (by omega) (Or.inl ⟨rfl, by omega⟩) (by omega)
    · show m_sh _ _ _ 7 = σ 7
      rw [sh_o (by omega), ev_up_ne (by omega)]
    · show m_sh _ _ _ (1000 + 100 * e + 9) = σ (1000 + 100 * e + 9)
      rw [sh_o (by omega), ev_up_ne (by omega)]
    · show m_sh _ _ _ (1000 + 100 * e + 50 + 1) = σ (1000 + 100 * e + 50 + 1)
      rw [sh_o (by omega), ev_up_ne (by omega)]
  · have e16 := h.r16 h0 h1
    refine ⟨(h.inn h0 (by omega) (j := 0) (by decide) (by decide) (by omega) (by omega)).symm, ?_, (Fx.rf.up ⟨by omega, fun e e0 e1 => by omega⟩).tr (sh_Fx h0 (by omega) (Or.inr (by omega))), (Fm.rf.up ⟨by omega, fun e e0 e1 => by omega⟩).tr (sh_Fm (by omega) (by omega)), ?_, fun e e0 => ⟨?_, fun h9 => by omega⟩⟩
    · rw [e16]
      exact (h.u16 h0 (by omega)).sh h0 (by omega) (by omega) (Or.inr ⟨rfl, by omega⟩) (by omega)
    · show m_sh _ _ _ 7 = σ 7
      rw [sh_o (by omega), ev_up_ne (by omega)]
    · show m_sh _ _ _ (1000 + 100 * e + 9) = σ (1000 + 100 * e + 9)
      rw [sh_o (by omega), ev_up_ne (by omega)]
