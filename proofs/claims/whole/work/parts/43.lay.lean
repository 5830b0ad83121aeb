/-! lay, and the start -/
theorem okit_rg {L : Int → Int} {n : Nat} (h : okit L n) {j : Nat} (hj : j < 5) : (if j = 3 then (1 : Int) else 0) ≤ va L n j ∧ va L n j ≤ hst (j : Int) := (h.1.2.1 j hj).2.2
theorem lay_TD {b : Int} {σ τ ρ ρ' : ev_M} {n : Nat} (h : LI b σ τ) (hx : XdI σ b n ρ) (hm : RdI τ b n ρ') (hn : n ≠ 0) : TD 60 (n : Int) ρ ρ' := by
  obtain ⟨hX, hM, c, hr⟩ := id h
  obtain ⟨x1, x2, x3, x4, x5, x6⟩ := hx
  obtain ⟨m1, m2, m3, m4, m5, m6⟩ := hm
  have la := La_xm hX hr.1
  have ev : ∀ d j : Nat, d < n → j < 5 → ρ' (640 + (5 * (d : Int) + (j : Int))) = va (Lx σ) d j := fun d j hd hj => by rw [m6 d j hd hj, va_c la]
  have evi : ∀ d j : Int, 0 ≤ d → d < (n : Int) → 0 ≤ j → j < 5 → ρ' (640 + (5 * d + j)) = va (Lx σ) d.toNat j.toNat := fun d j d0 d1 j0 j1 => by
    have := ev d.toNat j.toNat (by omega) (by omega)
    rw [show ((d.toNat : Nat) : Int) = d by omega, show ((j.toNat : Nat) : Int) = j by omega] at this
    exact this
  refine ⟨Or.inl rfl, by omega, by omega, m4, fun i j i0 i1 j0 j1 => ?_, fun d e d0 d1 e0 e1 hne => ?_, fun d j d0 d1 j0 j1 => ?_, ?_, fun k hk => ?_⟩
  · have := x6 i.toNat j.toNat (by omega) (by omega)
    rw [show ((i.toNat : Nat) : Int) = i by omega, show ((j.toNat : Nat) : Int) = j by omega] at this
    rw [this, evi i j i0 i1 j0 j1]
  · have a1 := evi d 1 d0 d1 (by decide) (by decide)
    have a2 := evi e 1 e0 e1 (by decide) (by decide)
    have a3 := evi d 2 d0 d1 (by decide) (by decide)
    rw [a1, a2, a3]
    intro h9 h8
    have h9 : va (Lx σ) d.toNat 1 = va (Lx σ) e.toNat 1 := h9
    have h8 : va (Lx σ) d.toNat 2 = 31 := h8
    rcases Int.lt_or_lt_of_ne hne with hlt | hlt
    · have := (x5 e.toNat (by omega)).2.2 d.toNat (by omega)
      unfold apt at this
      omega
    · have := (x5 d.toNat (by omega)).2.2 e.toNat (by omega)
      unfold apt at this
      omega
  · have := okit_rg (x5 d.toNat (by omega)).2 (j := j.toNat) (by omega)
    rw [evi d j d0 d1 j0 j1]
    rw [show ((j.toNat : Nat) : Int) = j by omega] at this
    refine ⟨?_, this.2⟩
    refine Int.le_trans ?_ this.1
    by_cases h3 : j = 3
    · rw [if_pos h3, if_pos (by omega)]; decide
    · rw [if_neg h3, if_neg (by omega)]; decide
  · rw [m2 0 (by omega), x2 22 (by omega)]
    exact hr.1.len
  · have r6 : rel 6 k := by unfold rel; omega
    have := (lc_p r6).2
    rw [m2 k (by omega), x2 (lc k) (fun h9 => this (by unfold xo; omega))]
    exact hr.1.2.1 k (by unfold rel; omega)
theorem L_lay {b r r' : Int} {σ τ σ' τ' : ev_M} (h : LI b σ τ) (hb : 0 ≤ b) (hx : XlQ σ b r σ') (hm : LyQ τ b r' τ') : r = r' ∧ LI (b + 4000) σ' τ' := by
  obtain ⟨q, ρ, hq, hx⟩ := hx
  obtain ⟨q', ρ', hq', hm⟩ := hm
  have ft := L_fault h hq hq'
  have eq := ft.1
  subst eq
  obtain ⟨hX, hM, c, hr⟩ := id h
  obtain ⟨x1, x2, n, x3, x4⟩ := hq
  obtain ⟨m1, m2, n', m3, m4⟩ := hq'
  have m5 := RdP_c (La_xm hX hr.1) m3
  rw [hr.1.len] at m5
  have en := (RdP_u x3 m5).2
  subst en
  -- both lay, or none does
  have same : (q = -4 ∧ 0 < ρ 23 ∧ ρ 60 = 2) ↔ (q = -4 ∧ ρ' 15 ≠ 0 ∧ ρ' 640 = 2) := by
    have key : q = -4 → ρ 23 = (n : Int) ∧ ρ' 15 = (n : Int) ∧ (n ≠ 0 → ρ 60 = ρ' 640) := fun h9 => by
      have a := x4 h9
      have a' := m4 h9
      refine ⟨a.2.2.2.1, a'.2.2.2.1, fun hn => ?_⟩
      have b1 := a.2.2.2.2.2 0 0 (by omega) (by decide)
      have b2 := a'.2.2.2.2.2 0 0 (by omega) (by decide)
      have e1 : (60 : Int) + (((0 : Nat) : Int) * 5 + ((0 : Nat) : Int)) = 60 := by decide
      have e2 : (640 : Int) + (5 * ((0 : Nat) : Int) + ((0 : Nat) : Int)) = 640 := by decide
      rw [e1] at b1
      rw [e2] at b2
      rw [b1, b2, va_c (La_xm hX hr.1)]
    constructor
    · intro ⟨h1, h2, h3⟩
      obtain ⟨k1, k2, k3⟩ := key h1
      exact ⟨h1, by omega, by rw [← k3 (by omega)]; exact h3⟩
    · intro ⟨h1, h2, h3⟩
      obtain ⟨k1, k2, k3⟩ := key h1
      exact ⟨h1, by omega, by rw [k3 (by omega)]; exact h3⟩
  rcases hx with ⟨r1, s1, no⟩ | ⟨h1, h2, h3, s1, r1⟩
  · rcases hm with ⟨r2, s2, -⟩ | ⟨g1, g2, g3, s2, r2⟩
    · subst s1 s2
      exact ⟨by omega, ft.2⟩
    · exact absurd (same.mpr ⟨g1, g2, g3⟩) no
  · rcases hm with ⟨r2, s2, no⟩ | ⟨g1, g2, g3, s2, r2⟩
    · exact absurd (same.mp ⟨h1, h2, h3⟩) no
    · have a := x4 h1
      have a' := m4 h1
      have k1 := a.2.2.2.1
      have k2 := a'.2.2.2.1
      have td := lay_TD h a a' (by omega)
      rw [k1] at s1 r1
      subst s1 s2
      refine ⟨?_, (begin_XI td x2 hb).mono (by omega), (begin_MI td m2 hb).mono (by omega), n, begin_rel td⟩
      rw [r1, r2, bw_4, mb_g.1, k2]
theorem stv_rg : ∀ (d : Fin 6) (j : Fin 5), (if (j : Nat) = 3 then (1 : Int) else 0) ≤ stv (520 + (5 * ((d : Nat) : Int) + ((j : Nat) : Int))) ∧ stv (520 + (5 * ((d : Nat) : Int) + ((j : Nat) : Int))) ≤ hst ((j : Nat) : Int) := by decide
theorem stv_cf : ∀ d e : Fin 6, (d : Nat) ≠ (e : Nat) → stv (520 + (5 * ((d : Nat) : Int) + 1)) = stv (520 + (5 * ((e : Nat) : Int) + 1)) → stv (520 + (5 * ((d : Nat) : Int) + 2)) ≠ 31 := by decide
theorem zm_r {k : Int} (h0 : 640 ≤ k) (h1 : k < 670) : zm k = stv (k - 120) := by unfold zm; rw [if_neg (by omega), if_pos (by omega)]
theorem start_TD : TD 520 6 zx zm := by
  refine ⟨Or.inr rfl, by decide, by decide, by decide, fun i j i0 i1 j0 j1 => ?_, fun d e d0 d1 e0 e1 hne => ?_, fun d j d0 d1 j0 j1 => ?_, by decide, fun k hk => ?_⟩
  · rw [zm_r (by omega) (by omega)]
    unfold zx
    rw [if_pos (by omega)]
    congr 1
    omega
  · rw [zm_r (by omega) (by omega), zm_r (by omega) (by omega), zm_r (by omega) (by omega)]
    have := stv_cf ⟨d.toNat, by omega⟩ ⟨e.toNat, by omega⟩ (by show d.toNat ≠ e.toNat; omega)
    simp only [show ((d.toNat : Nat) : Int) = d by omega, show ((e.toNat : Nat) : Int) = e by omega] at this
    rw [show 640 + (5 * d + 1) - 120 = 520 + (5 * d + 1) by omega, show 640 + (5 * e + 1) - 120 = 520 + (5 * e + 1) by omega, show 640 + (5 * d + 2) - 120 = 520 + (5 * d + 2) by omega]
    exact this
  · rw [zm_r (by omega) (by omega), show 640 + (5 * d + j) - 120 = 520 + (5 * d + j) by omega]
    have := stv_rg ⟨d.toNat, by omega⟩ ⟨j.toNat, by omega⟩
    simp only [show ((d.toNat : Nat) : Int) = d by omega, show ((j.toNat : Nat) : Int) = j by omega] at this
    refine ⟨Int.le_trans ?_ this.1, this.2⟩
    by_cases h3 : j = 3
    · rw [if_pos h3, if_pos (by omega)]; decide
    · rw [if_neg h3, if_neg (by omega)]; decide
  · have r6 : rel 6 k := by unfold rel; omega
    have e1 : zm k = 0 := by unfold zm; rw [if_neg (by omega), if_neg (by omega), if_neg (by omega)]
    have e2 : zx (lc k) = 0 := by
      unfold zx
      refine if_neg ?_
      by_cases hl : k < 300
      · have := (lc_ltr (i := k - 100) (by omega) (by omega)).2
        rw [show 100 + (k - 100) = k by omega] at this
        omega
      · have e : lc k = 1000 + 100 * ((k - 420) / 24) + (if (k - 420) % 24 < 12 then 30 + (k - 420) % 24 else 48 + (k - 420) % 24) := by
          unfold lc
          rw [if_neg (by omega), if_neg (by omega), if_neg (by omega), if_neg (by omega), if_neg (by omega), if_neg (by omega), if_neg (by omega), if_neg (by omega), if_neg (by omega), if_neg (by omega)]
        rw [e]
        split <;> omega
    rw [e1, e2]
theorem zx_XI : XI 0 zx := by
  intro n
  by_cases h : 500 ≤ n ∧ n < 550
  · have e : zx n = stv n := if_pos h
    have l : xlo n = stv n := by unfold xlo; rw [if_neg (by omega), if_pos h]
    have u : xhi 0 n = stv n := by unfold xhi; rw [if_neg (by omega), if_pos h]
    rw [e, l, u]
    exact ⟨Int.le_refl _, Int.le_refl _⟩
  · have e : zx n = 0 := if_neg h
    rw [e]
    unfold xlo xhi xfl xfh
    constructor
    · repeat' split
      all_goals first | omega | (rw [if_neg (by omega)])
    · repeat' split
      all_goals omega
theorem zm_MI : MI 0 zm := by
  intro n
  have st : ∀ k, 520 ≤ k → k < 550 → 0 ≤ stv k ∧ stv k ≤ 99 := fun k h0 h1 => by
    unfold stv
    constructor
    all_goals repeat' split
    all_goals omega
  by_cases h1 : 640 ≤ n ∧ n < 710
  · have l : mlo n = 0 := by unfold mlo; rw [if_neg (by omega), if_neg (by omega), if_pos (by omega)]
    have u : mhi 0 n = 99 := by unfold mhi; rw [if_neg (by omega), if_neg (by omega), if_neg (by omega), if_neg (by omega), if_neg (by omega), if_neg (by omega), if_neg (by omega), if_neg (by omega), if_neg (by omega), if_neg (by omega), if_neg (by omega), if_neg (by omega), if_neg (by omega), if_neg (by omega), if_pos (by omega)]
    rw [l, u]
    unfold zm
    split
    · exact st _ (by omega) (by omega)
    · split
      · exact st _ (by omega) (by omega)
      · rw [if_neg (by omega)]; decide
  · by_cases h2 : n = 15
    · rw [h2]; exact ⟨by decide, by decide⟩
    · have e : zm n = 0 := by unfold zm; rw [if_neg (by omega), if_neg (by omega), if_neg h2]
      rw [e]
      unfold mlo mhi
      constructor
      all_goals repeat' split
      all_goals omega
theorem start_LI : LI 0 (x_bw 520 6 zx) (m_begins zm) := ⟨begin_XI start_TD zx_XI (by decide), begin_MI start_TD zm_MI (by decide), 6, begin_rel start_TD⟩
