/-! the public calls: equal answers, and what both stores say stays -/
def LI (b : Int) (σ τ : ev_M) : Prop := XI b σ ∧ MI b τ ∧ ∃ c, RR c σ τ
def LK (b : Int) (A B : Int × ev_M) : Prop := A.1 = B.1 ∧ LI (b + 4000) A.2 B.2
theorem LK.of {b r r' : Int} {σ' τ' : ev_M} {A B : Int × ev_M} (h : LK b A B) (ha : (r, σ') = A) (hb : (r', τ') = B) : r = r' ∧ LI (b + 4000) σ' τ' := by
  subst ha hb
  exact h
theorem LI.k {b : Int} {σ τ : ev_M} {r : Int} (h : LI b σ τ) : LK b (r, σ) (r, τ) := ⟨rfl, h.1.mono (by omega), h.2.1.mono (by omega), h.2.2⟩
theorem LI.mk' {b b2 : Int} {σ τ : ev_M} {c : Int} (h1 : XI b2 σ) (h2 : MI b2 τ) (h3 : RR c σ τ) (hb : b2 ≤ b) : LI b σ τ := ⟨h1.mono hb, h2.mono hb, c, h3⟩
theorem L_put {b d v : Int} {σ τ : ev_M} (h : LI b σ τ) : LK b (q_put d v σ) (p_put d v τ) := by
  obtain ⟨hX, hM, c, hr⟩ := id h
  have hc := hr.1.1
  unfold q_put p_put
  rw [hr.1.c4, hc.2.2]
  by_cases hv : 0 ≤ d ∧ d < c ∧ 0 ≤ v ∧ v ≤ 255
  · rw [if_neg (not_not_intro hv), if_neg (not_not_intro hv)]
    obtain ⟨d0, d1, v0, v1⟩ := hv
    have s := hX.d21 d0 (by omega : d < 6)
    unfold x_app
    rw [hr.1.r15 d0 d1]
    by_cases hs : 12 ≤ σ (1000 + 100 * d + 20 + 1)
    · rw [if_pos hs, if_pos (by omega)]
      exact h.k
    · rw [if_neg hs, if_neg (by omega)]
      have e := hr.1.r15 d0 d1
      refine ⟨rfl, LI.mk' (c := c) ?_ ?_ (hr.of ((hr.1.uout d0 (by omega) (j := σ (1000 + 100 * d + 20 + 1)) (by omega) (by omega) (by omega) (by omega)).u15 d0 (by omega)) ((Fx.rf.up ⟨by omega, fun e e0 e1 => by omega⟩).up ⟨by omega, fun e e0 e1 => by omega⟩) ((Fm.rf.up ⟨by omega, fun e e0 e1 => by omega⟩).up ⟨by omega, fun e e0 e1 => by omega⟩)) (by omega : b ≤ b + 4000)⟩
      · refine XI.u21 ?_ d0 (by omega) (by omega) (by omega)
        have := hX.ubyte (i := d) (j := 30 + σ (1000 + 100 * d + 20 + 1)) (v := v) d0 (by omega) (by omega) ⟨by omega, by omega⟩
        rw [show 1000 + 100 * d + (30 + σ (1000 + 100 * d + 20 + 1)) = 1000 + 100 * d + 20 + 10 + σ (1000 + 100 * d + 20 + 1) by omega] at this
        exact this
      · exact (hM.ufree (by omega) ⟨by omega, by omega⟩).u15 d0 (by omega) (by omega) (by omega)
  · rw [if_pos hv, if_pos hv]
    exact h.k
theorem L_take {b d : Int} {σ τ : ev_M} (h : LI b σ τ) : LK b (q_take d σ) (p_take d τ) := by
  obtain ⟨hX, hM, c, hr⟩ := id h
  have hc := hr.1.1
  unfold q_take p_take
  rw [hr.1.c4, hc.2.2]
  by_cases hv : 0 ≤ d ∧ d < c
  · rw [if_neg (not_not_intro hv), if_neg (not_not_intro hv)]
    obtain ⟨d0, d1⟩ := hv
    have s := hX.d51 d0 (by omega : d < 6)
    have e := hr.1.r16 d0 d1
    by_cases hs : σ (1000 + 100 * d + 50 + 1) = 0
    · have : x_rmv (1000 + 100 * d + 50) σ = (-4, σ) := if_pos hs
      rw [this, if_pos (by omega)]
      exact h.k
    · obtain ⟨a1, a2, a3, a4, a5, a6⟩ := rmv_rel (r := 12) (w := 16) (o := 50) hr.1 d0 d1 (Or.inr ⟨rfl, rfl, rfl⟩) hs s.2
      rw [if_neg (by omega)]
      exact ⟨a1, LI.mk' (c := c) (hX.rmv d0 (by omega) (Or.inr rfl)) (hM.first d0 (by omega) (Or.inr rfl) (Or.inr rfl) (by omega) (by omega)) (hr.of a2 a3 a4) (by omega : b ≤ b + 4000)⟩
  · rw [if_pos hv, if_pos hv]
    exact h.k
theorem L_ask {b d s a : Int} {σ τ : ev_M} (h : LI b σ τ) : LK b (q_ask d s a σ) (p_ask d s a τ) := by
  obtain ⟨hX, hM, c, hr⟩ := id h
  have hc := hr.1.1
  unfold q_ask p_ask
  rw [hr.1.c4, hc.2.2]
  by_cases hv : 0 ≤ d ∧ d < c ∧ 0 ≤ s ∧ s ≤ 63 ∧ 0 ≤ a ∧ a ≤ 1
  · rw [if_neg (not_not_intro hv), if_neg (not_not_intro hv)]
    obtain ⟨d0, d1, s0, s1, a0, a1⟩ := hv
    have r9 := hr.1.r9 d0 d1
    have r10 := hr.1.r10 d0 d1
    have ar := hX.d8 d0 (by omega : d < 6)
    refine ⟨?_, LI.mk' (c := c) ((hX.u7 d0 (by omega) s0 s1).u8 d0 (by omega) a0 a1) ((hM.u9 d0 (by omega) s0 s1).u10 d0 (by omega) a0 a1) (hr.of ((hr.1.u9 d0 (by omega)).u10 d0 (by omega)) ((Fx.rf.up ⟨by omega, fun e e0 e1 => by omega⟩).up ⟨by omega, fun e e0 e1 => by omega⟩) ((Fm.rf.up ⟨by omega, fun e e0 e1 => by omega⟩).up ⟨by omega, fun e e0 e1 => by omega⟩)) (by omega : b ≤ b + 4000)⟩
    show x_pb d σ = _
    unfold x_pb
    show _ = τ (300 + (18 * d + 9)) + 64 * τ (300 + (18 * d + 10))
    rw [r9, r10]
    split <;> omega
  · rw [if_pos hv, if_pos hv]
    exact h.k
theorem L_front {b d : Int} {σ τ : ev_M} (h : LI b σ τ) : LK b (q_front d σ) (p_front d τ) := by
  obtain ⟨hX, hM, c, hr⟩ := id h
  have hc := hr.1.1
  unfold q_front p_front
  rw [hr.1.c4, hc.2.2]
  by_cases hv : 0 ≤ d ∧ d < c
  · rw [if_neg (not_not_intro hv), if_neg (not_not_intro hv)]
    obtain ⟨d0, d1⟩ := hv
    have ar := hX.d10 d0 (by omega : d < 6)
    rw [hr.1.r8 d0 d1, hr.1.r7 d0 d1]
    split
    · exact ⟨rfl, LI.mk' (c := c) (hX.u10 d0 (by omega) (by decide) (by decide)) (hM.u7 d0 (by omega) (by decide) (by decide)) (hr.of (hr.1.u7 d0 (by omega)) (Fx.rf.up ⟨by omega, fun e e0 e1 => by omega⟩) (Fm.rf.up ⟨by omega, fun e e0 e1 => by omega⟩)) (by omega : b ≤ b + 4000)⟩
    · have e : (if σ (1000 + 100 * d + 10) = 0 then (1 : Int) else 0) = 1 - σ (1000 + 100 * d + 10) := by split <;> omega
      rw [e]
      exact h.k
  · rw [if_pos hv, if_pos hv]
    exact h.k
theorem Bn.upace {c d v : Int} {σ τ : ev_M} (h : Bn c σ τ) (h0 : 0 ≤ d) (h1 : d < 6) (hv : 1 ≤ v) : Bn c (ev_up σ (1000 + 100 * d + 5) v) (ev_up τ (300 + (18 * d + 3)) v) := by
  obtain ⟨⟨a1, a2, a3⟩, b, s, t, f, g, i1, i2⟩ := h
  refine ⟨⟨a1, a2, by rw [ev_up_ne (by omega)]; exact a3⟩, b.up a2 (lc_3 h0 h1).1 (lc_3 h0 h1).2, s.fr (fun d h0 h1 => ev_up_ne (by omega)) (fun d h0 h1 => ev_up_ne (by omega)) (fun d h0 h1 => ev_up_ne (by omega)), t.fr (ev_up_ne (by omega)) (fun d h0 h1 => ev_up_ne (by omega)), ⟨fun e e' e0 e1 g0 g1 hne => ?_, fun e e0 e1 => ?_⟩, g.fr (fun k hk => ev_up_ne (by omega)) (fun k h0 h1 => ev_up_ne (by omega)), by rw [ev_up_ne (by omega)]; exact ⟨i1, i2⟩⟩
  · rw [ev_up_ne (by omega), ev_up_ne (by omega), ev_up_ne (by omega)]
    exact f.1 e e' e0 e1 g0 g1 hne
  · rw [ev_up_ne (k := 1000 + 100 * e + 4) (by omega)]
    refine ⟨?_, (f.2 e e0 e1).2⟩
    by_cases hde : e = d
    · rw [hde, ev_up_eq]; exact hv
    · rw [ev_up_ne (by omega)]; exact (f.2 e e0 e1).1
theorem L_tune {b d a v : Int} {σ τ : ev_M} (h : LI b σ τ) : LK b (q_tune d a v σ) (p_tune d a v τ) := by
  obtain ⟨hX, hM, c, hr⟩ := id h
  have hc := hr.1.1
  unfold q_tune p_tune
  rw [hr.1.c4, hc.2.2]
  by_cases hv : 0 ≤ d ∧ d < c ∧ 0 ≤ a ∧ a ≤ 1 ∧ 1 - a ≤ v ∧ v ≤ (if a = 0 then 9 else 60)
  · rw [if_neg (not_not_intro hv), if_neg (not_not_intro hv)]
    obtain ⟨d0, d1, a0, a1, v0, v1⟩ := hv
    by_cases ha : a = 0
    · subst ha
      rw [if_pos rfl] at v1
      rw [if_pos rfl]
      show LK b _ (if τ (300 + (18 * d + 3)) = v then (-2, τ) else (τ (300 + (18 * d + 3)), ev_up τ (300 + (18 * d + 3)) v))
      rw [hr.1.r3 d0 d1]
      by_cases hs : v = σ (1000 + 100 * d + 5)
      · rw [if_pos hs, if_pos hs.symm]
        exact h.k
      · rw [if_neg hs, if_neg (Ne.symm hs)]
        exact ⟨rfl, LI.mk' (c := c) (hX.u5 d0 (by omega) (by omega) (by omega)) (hM.u3 d0 (by omega) (by omega) (by omega)) (hr.of (hr.1.upace d0 (by omega) (by omega)) (Fx.rf.up ⟨by omega, fun e e0 e1 => by omega⟩) (Fm.rf.up ⟨by omega, fun e e0 e1 => by omega⟩)) (by omega : b ≤ b + 4000)⟩
    · have ha1 : a = 1 := by omega
      subst ha1
      rw [if_neg (by decide)] at v1
      rw [if_neg (by decide)]
      show LK b _ (if τ (300 + (18 * d + 4)) = v then (-2, τ) else (τ (300 + (18 * d + 4)), ev_up τ (300 + (18 * d + 4)) v))
      rw [hr.1.r4 d0 d1]
      by_cases hs : v = σ (1000 + 100 * d + 6)
      · rw [if_pos hs, if_pos hs.symm]
        exact h.k
      · rw [if_neg hs, if_neg (Ne.symm hs)]
        exact ⟨rfl, LI.mk' (c := c) (hX.u6 d0 (by omega) (by omega) (by omega)) (hM.u4 d0 (by omega) (by omega) (by omega)) (hr.of (hr.1.u4 d0 (by omega)) (Fx.rf.up ⟨by omega, fun e e0 e1 => by omega⟩) (Fm.rf.up ⟨by omega, fun e e0 e1 => by omega⟩)) (by omega : b ≤ b + 4000)⟩
  · rw [if_pos hv, if_pos hv]
    exact h.k
theorem L_device {b d a : Int} {σ τ : ev_M} (h : LI b σ τ) : LK b (q_device d a σ) (p_device d a τ) := by
  obtain ⟨hX, hM, c, hr⟩ := id h
  have hc := hr.1.1
  suffices hs : (q_device d a σ).1 = (p_device d a τ).1 by
    have : q_device d a σ = ((p_device d a τ).1, σ) := by rw [← hs]; rfl
    rw [this]
    exact h.k
  show (if ¬ (0 ≤ d ∧ d < σ 4) then -1 else if a = 5 then (if d = σ 7 then 1 else 0) else if a < 9 then x_set d a σ else x_sta d a (σ 5) σ) = (if ¬ (0 ≤ d ∧ d < τ 2 ∧ 0 ≤ a ∧ a ≤ 17) then -1 else if a = 12 then (if τ (300 + (18 * d + 11)) < 0 then -4 else τ (300 + (18 * d + 12))) else if a = 14 ∧ 0 ≤ τ (300 + (18 * d + 14)) then τ (300 + (18 * d + 14)) - τ 7 else τ (300 + (18 * d + a)))
  rw [hr.1.c4, hc.2.2]
  by_cases hv : 0 ≤ d ∧ d < c
  · rw [if_neg (not_not_intro hv)]
    obtain ⟨d0, d1⟩ := hv
    by_cases ha : 0 ≤ a ∧ a ≤ 17
    · rw [if_neg (not_not_intro ⟨d0, d1, ha.1, ha.2⟩)]
      have tk := hr.1.2.2.2.1.2 d d0 d1
      have sn := hr.1.2.2.1 d d0 d1
      have du := hr.2.1
      have dd := du.2 d d0 d1
      have r11 := hr.1.r11 d0 d1
      have r14 := hr.1.r14 d0 d1
      have nm := hr.2.2.1 d d0 d1
      have aa : a = 0 ∨ a = 1 ∨ a = 2 ∨ a = 3 ∨ a = 4 ∨ a = 5 ∨ a = 6 ∨ a = 7 ∨ a = 8 ∨ a = 9 ∨ a = 10 ∨ a = 11 ∨ a = 12 ∨ a = 13 ∨ a = 14 ∨ a = 15 ∨ a = 16 ∨ a = 17 := by omega
      rcases aa with rfl | rfl | rfl | rfl | rfl | rfl | rfl | rfl | rfl | rfl | rfl | rfl | rfl | rfl | rfl | rfl | rfl | rfl
      all_goals simp only [x_set, x_sta, Int.reduceEq, Int.reduceLT, reduceIte, false_and, if_false, true_and]
      · exact (hr.1.r0 d0 d1).symm
      · exact (hr.1.r1 d0 d1).symm
      · exact (hr.1.r2 d0 d1).symm
      · exact (hr.1.r3 d0 d1).symm
      · exact (hr.1.r4 d0 d1).symm
      · exact tk.symm
      · exact (hr.1.r6 d0 d1).symm
      · exact (hr.1.r7 d0 d1).symm
      · exact (hr.1.r8 d0 d1).symm
      · exact (hr.1.r9 d0 d1).symm
      · exact (hr.1.r10 d0 d1).symm
      · exact r11.symm
      · rw [r11]
        by_cases hl : σ (1000 + 100 * d + 14) = -4
        · rw [if_pos hl, if_pos (by omega)]
        · rw [if_neg hl, if_neg (by omega)]
          exact (sn.2 (by omega)).symm
      · exact (hr.1.r13 d0 d1).symm
      · rw [r14, hr.1.now]
        by_cases hl : σ (1000 + 100 * d + 17) = -4
        · rw [if_pos hl, if_neg (by omega), hl]
        · rw [if_neg hl, if_pos (by have := du.1; omega)]
      · exact (hr.1.r15 d0 d1).symm
      · exact (hr.1.r16 d0 d1).symm
      · exact nm.symm
    · rw [if_pos (fun h9 => ha ⟨h9.2.2.1, h9.2.2.2⟩), if_neg (by omega)]
      by_cases h9 : a < 9
      · rw [if_pos h9]
        unfold x_set
        rw [if_neg (by omega), if_neg (by omega), if_neg (by omega), if_neg (by omega), if_neg (by omega), if_neg (by omega), if_neg (by omega), if_neg (by omega)]
      · rw [if_neg h9]
        unfold x_sta
        rw [if_neg (by omega), if_neg (by omega), if_neg (by omega), if_neg (by omega), if_neg (by omega), if_neg (by omega), if_neg (by omega), if_neg (by omega), if_neg (by omega)]
  · rw [if_pos hv, if_pos (fun h9 => hv ⟨h9.1, h9.2.1⟩)]
theorem L_row {b d a i : Int} {σ τ : ev_M} (h : LI b σ τ) : LK b (q_row d a i σ) (p_row d a i τ) := by
  obtain ⟨hX, hM, c, hr⟩ := id h
  have hc := hr.1.1
  suffices hs : (q_row d a i σ).1 = (p_row d a i τ).1 by
    have : q_row d a i σ = ((p_row d a i τ).1, σ) := by rw [← hs]; rfl
    rw [this]
    exact h.k
  show (if ¬ (0 ≤ d ∧ d < σ 4 ∧ 0 ≤ a ∧ a ≤ 1 ∧ 0 ≤ i) then -1 else if a = 0 then x_at (1000 + 100 * d + 20) i σ else x_at (1000 + 100 * d + 50) i σ) = (if ¬ (0 ≤ d ∧ d < τ 2 ∧ 0 ≤ a ∧ a ≤ 1 ∧ 0 ≤ i) then -1 else if i < τ (300 + (18 * d + (15 + a))) then τ (420 + (24 * d + 12 * a + i)) else -4)
  rw [hr.1.c4, hc.2.2]
  by_cases hv : 0 ≤ d ∧ d < c ∧ 0 ≤ a ∧ a ≤ 1 ∧ 0 ≤ i
  · rw [if_neg (not_not_intro hv), if_neg (not_not_intro hv)]
    obtain ⟨d0, d1, a0, a1, i0⟩ := hv
    by_cases ha : a = 0
    · subst ha
      rw [if_pos rfl]
      unfold x_at
      have e := hr.1.r15 d0 d1
      have s := hX.d21 d0 (by omega : d < 6)
      show _ = if i < τ (300 + (18 * d + 15)) then _ else _
      rw [e]
      by_cases hi : i < σ (1000 + 100 * d + 20 + 1)
      · rw [if_pos ⟨i0, hi⟩, if_pos hi]
        exact (hr.1.out d0 (by omega) (j := i) i0 (by omega) (by omega) (by omega)).symm
      · rw [if_neg (fun h9 => hi h9.2), if_neg hi]
    · have ha1 : a = 1 := by omega
      subst ha1
      rw [if_neg (by decide)]
      unfold x_at
      have e := hr.1.r16 d0 d1
      have s := hX.d51 d0 (by omega : d < 6)
      show _ = if i < τ (300 + (18 * d + 16)) then _ else _
      rw [e]
      by_cases hi : i < σ (1000 + 100 * d + 50 + 1)
      · rw [if_pos ⟨i0, hi⟩, if_pos hi]
        exact (hr.1.inn d0 (by omega) (j := i) i0 (by omega) (by omega) (by omega)).symm
      · rw [if_neg (fun h9 => hi h9.2), if_neg hi]
  · rw [if_pos hv, if_pos hv]
theorem L_sum {b a : Int} {σ τ : ev_M} (h : LI b σ τ) : LK b (q_sum a σ) (p_sum a τ) := by
  obtain ⟨hX, hM, c, hr⟩ := id h
  have hc := hr.1.1
  suffices hs : (q_sum a σ).1 = (p_sum a τ).1 by
    have : q_sum a σ = ((p_sum a τ).1, σ) := by rw [← hs]; rfl
    rw [this]
    exact h.k
  show (if 0 ≤ a ∧ a < 8 then σ (40 + a) else -1) = (if 0 ≤ a ∧ a ≤ 7 then τ (570 + a) else -1)
  by_cases ha : 0 ≤ a ∧ a < 8
  · rw [if_pos ha, if_pos (by omega)]
    have := lc_sum ha.1 ha.2
    rw [← this.2]
    exact (hr.1.2.1 (570 + a) (by unfold rel; omega)).symm
  · rw [if_neg ha, if_neg (by omega)]
theorem L_log {b i a : Int} {σ τ : ev_M} (h : LI b σ τ) : LK b (q_log i a σ) (p_log i a τ) := by
  obtain ⟨hX, hM, c, hr⟩ := id h
  have hc := hr.1.1
  suffices hs : (q_log i a σ).1 = (p_log i a τ).1 by
    have : q_log i a σ = ((p_log i a τ).1, σ) := by rw [← hs]; rfl
    rw [this]
    exact h.k
  show (if i < -1 ∨ ¬ (0 ≤ a ∧ a ≤ 2) then -1 else if i = -1 then σ 33 else x_tell i a σ) = (if i < -1 ∨ ¬ (0 ≤ a ∧ a ≤ 2) then -1 else if i < 0 then τ 11 else if τ 11 ≤ i then -4 else if a = 0 then τ (580 + i) else if a = 1 then τ (600 + i) else τ (620 + i))
  rw [hr.1.lgd]
  by_cases hv : i < -1 ∨ ¬ (0 ≤ a ∧ a ≤ 2)
  · rw [if_pos hv, if_pos hv]
  · rw [if_neg hv, if_neg hv]
    by_cases hi : i = -1
    · rw [if_pos hi, if_pos (by omega)]
    · rw [if_neg hi, if_neg (by omega)]
      unfold x_tell
      by_cases hl : σ 33 ≤ i
      · rw [if_pos (Or.inr hl), if_pos hl]
      · rw [if_neg (by omega), if_neg hl]
        obtain ⟨g1, g2, g3⟩ := hr.1.2.2.2.2.2.1.2.2.2.2 i (by omega) (by omega)
        rw [g1, g2, g3]
theorem L_tick {b n : Int} {σ τ : ev_M} (h : LI b σ τ) : LK b (q_tick n σ) (p_tick n τ) := by
  obtain ⟨hX, hM, c, hr⟩ := id h
  unfold q_tick p_tick
  by_cases hn : 1 ≤ n ∧ n ≤ 500
  · rw [if_pos hn, if_pos hn]
    have e : ((n.toNat : Nat) : Int) = n := by omega
    obtain ⟨k1, k2⟩ := ticks_rel hr.1 hr.2.1 n.toNat
    obtain ⟨k3, k4⟩ := ticks_aux hM hr.1 n.toNat hr.2.2.1 hr.2.2.2
    rw [e] at k1 k2 k3 k4
    have hm := hM.ticks n.toNat
    rw [e] at hm
    exact ⟨k1.now.symm, (hX.pass (n := n) (by omega)).mono (by omega), hm.mono (by omega), c, k1, k2, k3, k4⟩
  · rw [if_neg hn, if_neg hn]
    exact h.k
theorem L_command {b q : Int} {σ τ : ev_M} (h : LI b σ τ) (hb : b ≤ 300000000) : LK b (q_command q σ) (p_command q τ) := by
  obtain ⟨hX, hM, c, hr⟩ := id h
  unfold q_command p_command
  by_cases hn : 0 ≤ q ∧ q ≤ 127
  · rw [if_pos hn, if_pos hn]
    have s := send_rel hX hM (by omega) hn.1 hn.2 hr
    exact ⟨s.1.now.symm, (hX.send (by omega) hn.1 hn.2).mono (by omega), (hM.sends' (by omega) hn.1 hn.2).mono (by omega), c, s⟩
  · rw [if_neg hn, if_neg hn]
    exact h.k
theorem L_give {b : Int} {σ τ : ev_M} (h : LI b σ τ) (hb : b ≤ 300000000) : LK b (x_give σ) (p_gives τ) := by
  obtain ⟨hX, hM, c, hr⟩ := id h
  obtain ⟨a1, a2⟩ := give_rel hX hM (by omega) hr
  exact ⟨a1, (hX.give (by omega)).mono (by omega), (hM.gives (by omega)).mono (by omega), c, a2⟩
theorem MI.poll {b : Int} {τ : ev_M} (h : MI b τ) (hb : b ≤ 300000000) : MI (b + 4000) (p_poll τ).2 := by
  have h2 := h.pl2 (by omega)
  have h3 := (plr_inv h2.1 (by omega) (τ 2).toNat h.nat2).1
  have n2 := h.nat2
  have h4 := (h3.sends' (c := 25) (by omega) (by decide) (by decide))
  have h5 := (h4.sends' (c := 95) (by omega) (by decide) (by decide))
  have s := h5.sum (n := 575) (by decide) (by decide)
  show MI (b + 4000) (ev_up (m_pl3 τ) 575 (m_pl3 τ 575 + (if (plr (m_pl2 τ) (τ 2).toNat).1 < 0 then 0 else 1)))
  unfold m_pl3
  refine (h5.mono (b2 := b + 4000) (by omega)).usum (by decide) (by decide) ?_ ?_
  · split <;> omega
  · split <;> omega
theorem XI.poll {b : Int} {σ : ev_M} (h : XI b σ) (hb : b ≤ 300000000) : XI (b + 4000) (x_poll σ).2 := by
  have h2 := h.pl2 (by omega)
  have n4 := h.nat4
  have h3 := (xpr_inv h2.1 (by omega) (σ 4).toNat n4).1
  have h4 := (h3.send (c := 25) (by omega) (by decide) (by decide))
  have h5 := (h4.send (c := 95) (by omega) (by decide) (by decide))
  have s := h5.sum (n := 45) (by decide)
  show XI (b + 4000) (if (xpr (x_pl2 σ) (σ 4).toNat).1 = -4 then x_pl3 σ else ev_up (x_pl3 σ) 45 (x_pl3 σ 45 + 1))
  unfold x_pl3
  split
  · exact h5.mono (by omega)
  · exact (h5.mono (b2 := b + 4000) (by omega)).usum (by decide) (by omega) (by omega)
theorem L_poll {b : Int} {σ τ : ev_M} (h : LI b σ τ) (hb : b ≤ 300000000) : LK b (x_poll σ) (p_poll τ) := by
  obtain ⟨hX, hM, c, hr⟩ := id h
  obtain ⟨a1, a2⟩ := poll_rel hX hM (by omega) hr
  exact ⟨a1, hX.poll hb, hM.poll hb, c, a2⟩
theorem par_rel {c : Int} {σ τ : ev_M} (h : Bn c σ τ) : ∀ n : Nat, (n : Int) ≤ c → xpa σ n = par τ n
  | 0, _ => rfl
  | n + 1, hn => by
    have ih := par_rel h n (by omega)
    have s := h.2.2.1 n (by omega) (by omega)
    show ev_or (xpa σ n) (x_lb (n : Int) σ) = ev_or (par τ n) _
    rw [ih]
    congr 1
    unfold x_lb
    rw [h.r11 (by omega) (by omega), h.r10 (by omega) (by omega)]
    by_cases hl : 0 ≤ σ (1000 + 100 * (n : Int) + 14)
    · rw [s.2 hl]
      by_cases hq : σ (1000 + 100 * (n : Int) + 15) = σ (1000 + 100 * (n : Int) + 8)
      · rw [if_pos ⟨by omega, hq⟩, if_pos ⟨hl, hq.symm⟩]
      · rw [if_neg (fun h9 => hq h9.2), if_neg (fun h9 => hq h9.2.symm)]
    · rw [if_neg (fun h9 => by have := h9.1; omega), if_neg (fun h9 => hl h9.1)]
theorem L_parallel {b : Int} {σ τ : ev_M} (h : LI b σ τ) : LK b (q_parallel σ) (p_parallel τ) := by
  obtain ⟨hX, hM, c, hr⟩ := id h
  have hc := hr.1.1
  obtain ⟨k1, k2⟩ := ticks_rel hr.1 hr.2.1 1
  obtain ⟨k3, k4⟩ := ticks_aux hM hr.1 1 hr.2.2.1 hr.2.2.2
  have k1 : Bn c (x_pass 1 σ) (m_ticks τ 1) := k1
  refine ⟨?_, (hX.pass (n := 1) (by omega)).mono (by omega), (hM.ticks 1).mono (by omega), c, k1, k2, k3, k4⟩
  show xpa (x_pass 1 σ) (σ 4).toNat = par (m_ticks τ 1) (τ 2).toNat
  rw [hr.1.c4, hc.2.2]
  exact par_rel k1 _ (by omega)
theorem L_takeBack {b : Int} {σ τ : ev_M} (h : LI b σ τ) : LK b (q_takeBack σ) (p_takeBack τ) := by
  obtain ⟨hX, hM, c, hr⟩ := id h
  have hc := hr.1.1
  unfold q_takeBack p_takeBack
  rw [hr.1.c4, hc.2.2]
  have s0 : SS c σ τ := ⟨hr.1, hr.2.2.1, hr.2.1⟩
  have s1 := (all_rel (f := x_el) (g := m_all 6 0) s0.silent (fun k σ' τ' k0 k1 g => g.el k0 k1)).1
  obtain ⟨s2, z⟩ := enp_rel s1.1 s1.2.2
  have rr : RR c (ev_up (ev_up (it x_enp (it x_el (ev_up σ 7 (-4)) c.toNat) c.toNat) 9 0) 6 0) (ev_up (ev_up (ev_up (it (m_all 17 0) (it (m_all 6 0) (it (m_all 5 0) τ c.toNat) c.toNat) c.toNat) 9 0) 6 0) 5 0) := by
    refine ⟨((s2.1.upm (by omega)).upol).uchg (by decide) (by omega), s2.2.2.fr (by rw [ev_up_ne (by decide), ev_up_ne (by decide)]) (fun d h0 h1 => by rw [ev_up_ne (by omega), ev_up_ne (by omega)]), s2.2.1.fr (fun d h0 h1 => by rw [ev_up_ne (by omega), ev_up_ne (by omega)]) (fun d h0 h1 => by rw [ev_up_ne (by omega), ev_up_ne (by omega), ev_up_ne (by omega)]), fun d h0 h1 => ?_⟩
    rw [ev_up_ne (by omega), ev_up_ne (by omega), ev_up_ne (by decide), ev_up_ne (by decide), ev_up_eq, z d h0 h1]
    have := (bit63 ⟨d.toNat, by omega⟩).2
    rw [show (((⟨d.toNat, by omega⟩ : Fin 6) : Nat) : Int) = d by show ((d.toNat : Nat) : Int) = d; omega] at this
    exact this.symm
  exact ⟨hr.1.chg.symm, ((((((hX.t7 (by decide) (by decide)).itel _ (by omega)).itenp _ (by omega)).t9 (by decide) (by decide)).t6 (by decide) (by decide))).mono (by omega), ((((((hM.itall5 _ (by omega)).itall6 _ (by omega)).itall17 _ (by omega)).t9 (by decide) (by decide)).t6 (by decide) (by decide)).t5 (by decide) (by decide)).mono (by omega), c, rr⟩
def p_write (a : Int) (σ : ev_M) : Int × ev_M := if a < 32 ∨ 126 < a then (-1, σ) else if σ 0 = 200 then (-3, σ) else (σ 0 + 1, ev_up (ev_up σ (100 + σ 0) a) 0 (σ 0 + 1))
theorem p_write_of {a r : Int} {σ σ' : ev_M} (h : if a < 32 ∨ 126 < a then r = -1 ∧ σ' = σ else if σ 0 = 200 then r = -3 ∧ σ' = σ else r = σ 0 + 1 ∧ σ' = ev_up (ev_up σ (100 + σ 0) a) 0 (σ 0 + 1)) : (r, σ') = p_write a σ := by
  unfold p_write
  split
  · next h1 => rw [if_pos h1] at h; rw [h.1, h.2]
  · next h1 =>
    rw [if_neg h1] at h
    split
    · next h2 => rw [if_pos h2] at h; rw [h.1, h.2]
    · next h2 => rw [if_neg h2] at h; rw [h.1, h.2]
theorem MI.ultr {b n v : Int} {τ : ev_M} (h : MI b τ) (h0 : 100 ≤ n ∧ n < 300) (g0 : 0 ≤ v) (g1 : v ≤ 126) : MI b (ev_up τ n v) := by
  refine h.up ?_ ?_
  · unfold mlo
    rw [if_neg (by omega), if_neg (by omega), if_pos (by omega)]
    exact g0
  · unfold mhi
    rw [if_neg (by omega), if_neg (by omega), if_neg (by omega), if_neg (by omega), if_neg (by omega), if_neg (by omega), if_neg (by omega), if_neg (by omega), if_neg (by omega), if_neg (by omega), if_neg (by omega), if_neg (by omega), if_pos (by omega)]
    exact g1
theorem L_write {b a : Int} {σ τ : ev_M} (h : LI b σ τ) : LK b (q_write a σ) (p_write a τ) := by
  obtain ⟨hX, hM, c, hr⟩ := id h
  unfold q_write p_write
  have l := hX.s22
  rw [hr.1.len]
  by_cases hv : a < 32 ∨ 126 < a
  · rw [if_pos hv, if_pos hv]
    exact h.k
  · rw [if_neg hv, if_neg hv]
    by_cases hl : 200 ≤ σ 22
    · rw [if_pos hl, if_pos (by omega)]
      exact h.k
    · rw [if_neg hl, if_neg (by omega)]
      have lc := lc_ltr (i := σ 22) l.1 (by omega)
      refine ⟨rfl, LI.mk' (c := c) ((hX.ultr (by omega) (by omega) (by omega)).t22 (by omega) (by omega)) ((hM.ultr (by omega) (by omega) (by omega)).t0 (by omega) (by omega)) (hr.of ((hr.1.up ⟨lc.1, by omega, by omega, by omega, by omega⟩ lc.2).ulen) ((Fx.rf.up ⟨by omega, fun e e0 e1 => by omega⟩).up ⟨by omega, fun e e0 e1 => by omega⟩) ((Fm.rf.up ⟨by omega, fun e e0 e1 => by omega⟩).up ⟨by omega, fun e e0 e1 => by omega⟩)) (by omega : b ≤ b + 4000)⟩
theorem L_wipe {b : Int} {σ τ : ev_M} (h : LI b σ τ) : LK b (q_wipe σ) (τ 0, ev_up τ 0 0) := by
  obtain ⟨hX, hM, c, hr⟩ := id h
  exact ⟨hr.1.len.symm, LI.mk' (c := c) (hX.t22 (by decide) (by decide)) (hM.t0 (by decide) (by decide)) (hr.of hr.1.ulen (Fx.rf.up ⟨by omega, fun e e0 e1 => by omega⟩) (Fm.rf.up ⟨by omega, fun e e0 e1 => by omega⟩)) (by omega : b ≤ b + 4000)⟩
theorem or01 {a b : Int} (ha : a = 0 ∨ a = 1) (hb : b = 0 ∨ b = 1) : ev_or a b = if a = 0 ∧ b = 0 then 0 else 1 := by
  rcases ha with rfl | rfl <;> rcases hb with rfl | rfl <;> decide
theorem aar_p {b : Int} {τ : ev_M} (hM : MI b τ) : ∀ n : Nat, n ≤ 6 → (aar τ n = 1 ∧ ∃ i : Nat, i < n ∧ τ (300 + (18 * (i : Int) + 10)) ≠ 0) ∨ (aar τ n = 0 ∧ ∀ i : Nat, i < n → τ (300 + (18 * (i : Int) + 10)) = 0)
  | 0, _ => Or.inr ⟨rfl, fun i hi => by omega⟩
  | n + 1, hn => by
    have hr := hM.h10 (d := (n : Int)) (by omega) (by omega)
    have e : aar τ (n + 1) = ev_or (aar τ n) (τ (300 + (18 * (n : Int) + 10))) := rfl
    have hb : τ (300 + (18 * (n : Int) + 10)) = 0 ∨ τ (300 + (18 * (n : Int) + 10)) = 1 := by omega
    rcases aar_p hM n (by omega) with ⟨h1, i, hi, hz⟩ | ⟨h1, hz⟩
    · left
      refine ⟨?_, i, by omega, hz⟩
      rw [e, h1, or01 (Or.inr rfl) hb, if_neg (fun h9 => by have := h9.1; omega)]
    · by_cases h9 : τ (300 + (18 * (n : Int) + 10)) = 0
      · right
        refine ⟨?_, fun i hi => ?_⟩
        · rw [e, h1, or01 (Or.inl rfl) hb, if_pos ⟨rfl, h9⟩]
        · by_cases hin : i = n
          · rw [hin]; exact h9
          · exact hz i (by omega)
      · left
        refine ⟨?_, n, by omega, h9⟩
        rw [e, h1, or01 (Or.inl rfl) hb, if_neg (fun h8 => h9 h8.2)]
theorem L_bus {b a r r' : Int} {σ τ σ' τ' : ev_M} (h : LI b σ τ) (hx : BusP a σ r ∧ σ' = σ) (hm : (r', τ') = p_bus a τ) : r = r' ∧ LI (b + 4000) σ' τ' := by
  obtain ⟨hX, hM, c, hr⟩ := id h
  have hc := hr.1.1
  obtain ⟨hx, rfl⟩ := hx
  have em : r' = (p_bus a τ).1 ∧ τ' = τ := by
    have h1 := congrArg Prod.fst hm
    have h2 := congrArg Prod.snd hm
    exact ⟨h1, h2⟩
  obtain ⟨em, rfl⟩ := em
  refine ⟨?_, (h.k (r := 0)).2⟩
  rw [em]
  show r = (if a = 0 then m_talk τ' else if a = 1 then m_lis τ' else if a = 2 then τ' 5 else if a = 3 then τ' 6 else if a = 4 then τ' 7 else if a = 5 then m_any τ' else if a = 6 then (if m_takers τ' = 0 then -2 else m_slow (m_takers τ') τ' + 2) else if a = 7 then τ' 2 else if a = 8 then τ' 0 else -1)
  unfold BusP at hx
  by_cases a0 : a = 0
  · rw [if_pos a0] at hx ⊢
    rw [hx, talk_eq hr.1]
  rw [if_neg a0] at hx ⊢
  by_cases a1 : a = 1
  · rw [if_pos a1] at hx ⊢
    rw [hx]
    unfold x_lbs m_lis
    rw [hr.1.c4, hc.2.2, lsr_g, lbr_g _ (by omega) (fun k hk => by have := hX.d9 (i := (k : Int)) (by omega) (by omega); omega)]
    exact gbt_ext _ (fun k hk => (hr.1.r6 (by omega) (by omega)).symm)
  rw [if_neg a1] at hx ⊢
  by_cases a2 : a = 2
  · rw [if_pos a2] at hx ⊢
    rw [hx, hr.1.chg]
  rw [if_neg a2] at hx ⊢
  by_cases a3 : a = 3
  · rw [if_pos a3] at hx ⊢
    rw [hx, hr.1.pol]
  rw [if_neg a3] at hx ⊢
  by_cases a4 : a = 4
  · rw [if_pos a4] at hx ⊢
    rw [hx, hr.1.now]
  rw [if_neg a4] at hx ⊢
  by_cases a5 : a = 5
  · rw [if_pos a5] at hx ⊢
    unfold m_any
    rw [hc.2.2]
    rcases aar_p hM c.toNat (by omega) with ⟨h1, i, hi, hz⟩ | ⟨h1, hz⟩
    · rw [h1]
      rcases hx with ⟨h2, -⟩ | ⟨h2, h3⟩
      · exact h2
      · rw [hr.1.r10 (by omega) (by omega)] at hz
        exact absurd (h3 i (by rw [hr.1.c4]; omega)) hz
    · rw [h1]
      rcases hx with ⟨h2, i, hi, h3⟩ | ⟨h2, h3⟩
      · rw [hr.1.c4] at hi
        have := hz i (by omega)
        rw [hr.1.r10 (by omega) (by omega)] at this
        exact absurd this h3
      · exact h2
  rw [if_neg a5] at hx ⊢
  by_cases a6 : a = 6
  · rw [if_pos a6] at hx ⊢
    rw [hx]
    exact tnb_rel hX hM hr.1
  rw [if_neg a6] at hx ⊢
  by_cases a7 : a = 7
  · rw [if_pos a7] at hx ⊢
    rw [hx, hr.1.c]
  rw [if_neg a7] at hx ⊢
  by_cases a8 : a = 8
  · rw [if_pos a8] at hx ⊢
    rw [hx, hr.1.len]
  rw [if_neg a8] at hx ⊢
  exact hx
