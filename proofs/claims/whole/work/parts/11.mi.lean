/-! the ranges of the reference's numbers, b the bound of NOW and of the sums -/
def mlo (n : Int) : Int := if 300 ≤ n ∧ n < 408 then (if (n - 300) % 18 = 11 ∨ (n - 300) % 18 = 14 then -4 else 0) else if n = 8 then -4 else if n = 0 ∨ n = 2 ∨ n = 5 ∨ n = 6 ∨ n = 7 ∨ n = 9 ∨ n = 11 ∨ n = 15 ∨ n = 17 ∨ n = 18 ∨ (100 ≤ n ∧ n < 300) ∨ (570 ≤ n ∧ n < 578) ∨ (640 ≤ n ∧ n < 710) then 0 else -2147483648
def mhi (b n : Int) : Int := if 300 ≤ n ∧ n < 408 then (if (n - 300) % 18 = 0 then 2 else if (n - 300) % 18 = 1 then 30 else if (n - 300) % 18 = 2 then 31 else if (n - 300) % 18 = 3 then 9 else if (n - 300) % 18 = 4 then 60 else if (n - 300) % 18 = 5 then 1 else if (n - 300) % 18 = 6 then 1 else if (n - 300) % 18 = 7 then 1 else if (n - 300) % 18 = 8 then 1 else if (n - 300) % 18 = 9 then 63 else if (n - 300) % 18 = 10 then 1 else if (n - 300) % 18 = 11 then 7 else if (n - 300) % 18 = 12 then 1 else if (n - 300) % 18 = 13 then 999 else if (n - 300) % 18 = 14 then b + 60 else if (n - 300) % 18 = 15 then 12 else if (n - 300) % 18 = 16 then 12 else 2) else if n = 0 then 200 else if n = 2 then 6 else if n = 5 then 5 else if n = 6 then 1 else if n = 7 then b else if n = 8 then 127 else if n = 9 then 63 else if n = 11 then 16 else if n = 15 then 6 else if n = 17 then 99 else if n = 18 then 1000 else if 100 ≤ n ∧ n < 300 then 126 else if 570 ≤ n ∧ n < 578 then b else if 640 ≤ n ∧ n < 710 then 99 else 2147483647
def MI (b : Int) (τ : ev_M) : Prop := ∀ n, mlo n ≤ τ n ∧ τ n ≤ mhi b n
theorem MI.up {b : Int} {τ : ev_M} {n v : Int} (h : MI b τ) (h0 : mlo n ≤ v) (h1 : v ≤ mhi b n) : MI b (ev_up τ n v) := by
  intro k
  unfold ev_up
  split
  · next e => rw [e]; exact ⟨h0, h1⟩
  · exact h k
theorem MI.mono {b b2 : Int} {τ : ev_M} (h : MI b τ) (hb : b ≤ b2) : MI b2 τ := by
  intro k
  refine ⟨(h k).1, Int.le_trans (h k).2 ?_⟩
  unfold mhi
  repeat' split
  all_goals omega
theorem mlo_0 {d : Int} (h0 : 0 ≤ d) (h1 : d < 6) : mlo (300 + (18 * d + 0)) = 0 := by
  unfold mlo
  rw [if_pos (by omega), show (300 + (18 * d + 0) - 300) % 18 = 0 by omega]
  rfl
theorem mhi_0 {b d : Int} (h0 : 0 ≤ d) (h1 : d < 6) : mhi b (300 + (18 * d + 0)) = 2 := by
  unfold mhi
  rw [if_pos (by omega), show (300 + (18 * d + 0) - 300) % 18 = 0 by omega]
  rfl
theorem MI.h0 {b d : Int} {τ : ev_M} (h : MI b τ) (h0 : 0 ≤ d) (h1 : d < 6) : 0 ≤ τ (300 + (18 * d + 0)) ∧ τ (300 + (18 * d + 0)) ≤ 2 := by
  have := h (300 + (18 * d + 0))
  rwa [mlo_0 h0 h1, mhi_0 h0 h1] at this
theorem MI.u0 {b d v : Int} {τ : ev_M} (h : MI b τ) (h0 : 0 ≤ d) (h1 : d < 6) (g0 : 0 ≤ v) (g1 : v ≤ 2) : MI b (ev_up τ (300 + (18 * d + 0)) v) := h.up (by rw [mlo_0 h0 h1]; exact g0) (by rw [mhi_0 h0 h1]; exact g1)
theorem mlo_1 {d : Int} (h0 : 0 ≤ d) (h1 : d < 6) : mlo (300 + (18 * d + 1)) = 0 := by
  unfold mlo
  rw [if_pos (by omega), show (300 + (18 * d + 1) - 300) % 18 = 1 by omega]
  rfl
theorem mhi_1 {b d : Int} (h0 : 0 ≤ d) (h1 : d < 6) : mhi b (300 + (18 * d + 1)) = 30 := by
  unfold mhi
  rw [if_pos (by omega), show (300 + (18 * d + 1) - 300) % 18 = 1 by omega]
  rfl
theorem MI.h1 {b d : Int} {τ : ev_M} (h : MI b τ) (h0 : 0 ≤ d) (h1 : d < 6) : 0 ≤ τ (300 + (18 * d + 1)) ∧ τ (300 + (18 * d + 1)) ≤ 30 := by
  have := h (300 + (18 * d + 1))
  rwa [mlo_1 h0 h1, mhi_1 h0 h1] at this
theorem MI.u1 {b d v : Int} {τ : ev_M} (h : MI b τ) (h0 : 0 ≤ d) (h1 : d < 6) (g0 : 0 ≤ v) (g1 : v ≤ 30) : MI b (ev_up τ (300 + (18 * d + 1)) v) := h.up (by rw [mlo_1 h0 h1]; exact g0) (by rw [mhi_1 h0 h1]; exact g1)
theorem mlo_2 {d : Int} (h0 : 0 ≤ d) (h1 : d < 6) : mlo (300 + (18 * d + 2)) = 0 := by
  unfold mlo
  rw [if_pos (by omega), show (300 + (18 * d + 2) - 300) % 18 = 2 by omega]
  rfl
theorem mhi_2 {b d : Int} (h0 : 0 ≤ d) (h1 : d < 6) : mhi b (300 + (18 * d + 2)) = 31 := by
  unfold mhi
  rw [if_pos (by omega), show (300 + (18 * d + 2) - 300) % 18 = 2 by omega]
  rfl
theorem MI.h2 {b d : Int} {τ : ev_M} (h : MI b τ) (h0 : 0 ≤ d) (h1 : d < 6) : 0 ≤ τ (300 + (18 * d + 2)) ∧ τ (300 + (18 * d + 2)) ≤ 31 := by
  have := h (300 + (18 * d + 2))
  rwa [mlo_2 h0 h1, mhi_2 h0 h1] at this
theorem MI.u2 {b d v : Int} {τ : ev_M} (h : MI b τ) (h0 : 0 ≤ d) (h1 : d < 6) (g0 : 0 ≤ v) (g1 : v ≤ 31) : MI b (ev_up τ (300 + (18 * d + 2)) v) := h.up (by rw [mlo_2 h0 h1]; exact g0) (by rw [mhi_2 h0 h1]; exact g1)
theorem mlo_3 {d : Int} (h0 : 0 ≤ d) (h1 : d < 6) : mlo (300 + (18 * d + 3)) = 0 := by
  unfold mlo
  rw [if_pos (by omega), show (300 + (18 * d + 3) - 300) % 18 = 3 by omega]
  rfl
theorem mhi_3 {b d : Int} (h0 : 0 ≤ d) (h1 : d < 6) : mhi b (300 + (18 * d + 3)) = 9 := by
  unfold mhi
  rw [if_pos (by omega), show (300 + (18 * d + 3) - 300) % 18 = 3 by omega]
  rfl
theorem MI.h3 {b d : Int} {τ : ev_M} (h : MI b τ) (h0 : 0 ≤ d) (h1 : d < 6) : 0 ≤ τ (300 + (18 * d + 3)) ∧ τ (300 + (18 * d + 3)) ≤ 9 := by
  have := h (300 + (18 * d + 3))
  rwa [mlo_3 h0 h1, mhi_3 h0 h1] at this
theorem MI.u3 {b d v : Int} {τ : ev_M} (h : MI b τ) (h0 : 0 ≤ d) (h1 : d < 6) (g0 : 0 ≤ v) (g1 : v ≤ 9) : MI b (ev_up τ (300 + (18 * d + 3)) v) := h.up (by rw [mlo_3 h0 h1]; exact g0) (by rw [mhi_3 h0 h1]; exact g1)
theorem mlo_4 {d : Int} (h0 : 0 ≤ d) (h1 : d < 6) : mlo (300 + (18 * d + 4)) = 0 := by
  unfold mlo
  rw [if_pos (by omega), show (300 + (18 * d + 4) - 300) % 18 = 4 by omega]
  rfl
theorem mhi_4 {b d : Int} (h0 : 0 ≤ d) (h1 : d < 6) : mhi b (300 + (18 * d + 4)) = 60 := by
  unfold mhi
  rw [if_pos (by omega), show (300 + (18 * d + 4) - 300) % 18 = 4 by omega]
  rfl
theorem MI.h4 {b d : Int} {τ : ev_M} (h : MI b τ) (h0 : 0 ≤ d) (h1 : d < 6) : 0 ≤ τ (300 + (18 * d + 4)) ∧ τ (300 + (18 * d + 4)) ≤ 60 := by
  have := h (300 + (18 * d + 4))
  rwa [mlo_4 h0 h1, mhi_4 h0 h1] at this
theorem MI.u4 {b d v : Int} {τ : ev_M} (h : MI b τ) (h0 : 0 ≤ d) (h1 : d < 6) (g0 : 0 ≤ v) (g1 : v ≤ 60) : MI b (ev_up τ (300 + (18 * d + 4)) v) := h.up (by rw [mlo_4 h0 h1]; exact g0) (by rw [mhi_4 h0 h1]; exact g1)
theorem mlo_5 {d : Int} (h0 : 0 ≤ d) (h1 : d < 6) : mlo (300 + (18 * d + 5)) = 0 := by
  unfold mlo
  rw [if_pos (by omega), show (300 + (18 * d + 5) - 300) % 18 = 5 by omega]
  rfl
theorem mhi_5 {b d : Int} (h0 : 0 ≤ d) (h1 : d < 6) : mhi b (300 + (18 * d + 5)) = 1 := by
  unfold mhi
  rw [if_pos (by omega), show (300 + (18 * d + 5) - 300) % 18 = 5 by omega]
  rfl
theorem MI.h5 {b d : Int} {τ : ev_M} (h : MI b τ) (h0 : 0 ≤ d) (h1 : d < 6) : 0 ≤ τ (300 + (18 * d + 5)) ∧ τ (300 + (18 * d + 5)) ≤ 1 := by
  have := h (300 + (18 * d + 5))
  rwa [mlo_5 h0 h1, mhi_5 h0 h1] at this
theorem MI.u5 {b d v : Int} {τ : ev_M} (h : MI b τ) (h0 : 0 ≤ d) (h1 : d < 6) (g0 : 0 ≤ v) (g1 : v ≤ 1) : MI b (ev_up τ (300 + (18 * d + 5)) v) := h.up (by rw [mlo_5 h0 h1]; exact g0) (by rw [mhi_5 h0 h1]; exact g1)
theorem mlo_6 {d : Int} (h0 : 0 ≤ d) (h1 : d < 6) : mlo (300 + (18 * d + 6)) = 0 := by
  unfold mlo
  rw [if_pos (by omega), show (300 + (18 * d + 6) - 300) % 18 = 6 by omega]
  rfl
theorem mhi_6 {b d : Int} (h0 : 0 ≤ d) (h1 : d < 6) : mhi b (300 + (18 * d + 6)) = 1 := by
  unfold mhi
  rw [if_pos (by omega), show (300 + (18 * d + 6) - 300) % 18 = 6 by omega]
  rfl
theorem MI.h6 {b d : Int} {τ : ev_M} (h : MI b τ) (h0 : 0 ≤ d) (h1 : d < 6) : 0 ≤ τ (300 + (18 * d + 6)) ∧ τ (300 + (18 * d + 6)) ≤ 1 := by
  have := h (300 + (18 * d + 6))
  rwa [mlo_6 h0 h1, mhi_6 h0 h1] at this
theorem MI.u6 {b d v : Int} {τ : ev_M} (h : MI b τ) (h0 : 0 ≤ d) (h1 : d < 6) (g0 : 0 ≤ v) (g1 : v ≤ 1) : MI b (ev_up τ (300 + (18 * d + 6)) v) := h.up (by rw [mlo_6 h0 h1]; exact g0) (by rw [mhi_6 h0 h1]; exact g1)
theorem mlo_7 {d : Int} (h0 : 0 ≤ d) (h1 : d < 6) : mlo (300 + (18 * d + 7)) = 0 := by
  unfold mlo
  rw [if_pos (by omega), show (300 + (18 * d + 7) - 300) % 18 = 7 by omega]
  rfl
theorem mhi_7 {b d : Int} (h0 : 0 ≤ d) (h1 : d < 6) : mhi b (300 + (18 * d + 7)) = 1 := by
  unfold mhi
  rw [if_pos (by omega), show (300 + (18 * d + 7) - 300) % 18 = 7 by omega]
  rfl
theorem MI.h7 {b d : Int} {τ : ev_M} (h : MI b τ) (h0 : 0 ≤ d) (h1 : d < 6) : 0 ≤ τ (300 + (18 * d + 7)) ∧ τ (300 + (18 * d + 7)) ≤ 1 := by
  have := h (300 + (18 * d + 7))
  rwa [mlo_7 h0 h1, mhi_7 h0 h1] at this
theorem MI.u7 {b d v : Int} {τ : ev_M} (h : MI b τ) (h0 : 0 ≤ d) (h1 : d < 6) (g0 : 0 ≤ v) (g1 : v ≤ 1) : MI b (ev_up τ (300 + (18 * d + 7)) v) := h.up (by rw [mlo_7 h0 h1]; exact g0) (by rw [mhi_7 h0 h1]; exact g1)
theorem mlo_8 {d : Int} (h0 : 0 ≤ d) (h1 : d < 6) : mlo (300 + (18 * d + 8)) = 0 := by
  unfold mlo
  rw [if_pos (by omega), show (300 + (18 * d + 8) - 300) % 18 = 8 by omega]
  rfl
theorem mhi_8 {b d : Int} (h0 : 0 ≤ d) (h1 : d < 6) : mhi b (300 + (18 * d + 8)) = 1 := by
  unfold mhi
  rw [if_pos (by omega), show (300 + (18 * d + 8) - 300) % 18 = 8 by omega]
  rfl
theorem MI.h8 {b d : Int} {τ : ev_M} (h : MI b τ) (h0 : 0 ≤ d) (h1 : d < 6) : 0 ≤ τ (300 + (18 * d + 8)) ∧ τ (300 + (18 * d + 8)) ≤ 1 := by
  have := h (300 + (18 * d + 8))
  rwa [mlo_8 h0 h1, mhi_8 h0 h1] at this
theorem MI.u8 {b d v : Int} {τ : ev_M} (h : MI b τ) (h0 : 0 ≤ d) (h1 : d < 6) (g0 : 0 ≤ v) (g1 : v ≤ 1) : MI b (ev_up τ (300 + (18 * d + 8)) v) := h.up (by rw [mlo_8 h0 h1]; exact g0) (by rw [mhi_8 h0 h1]; exact g1)
theorem mlo_9 {d : Int} (h0 : 0 ≤ d) (h1 : d < 6) : mlo (300 + (18 * d + 9)) = 0 := by
  unfold mlo
  rw [if_pos (by omega), show (300 + (18 * d + 9) - 300) % 18 = 9 by omega]
  rfl
theorem mhi_9 {b d : Int} (h0 : 0 ≤ d) (h1 : d < 6) : mhi b (300 + (18 * d + 9)) = 63 := by
  unfold mhi
  rw [if_pos (by omega), show (300 + (18 * d + 9) - 300) % 18 = 9 by omega]
  rfl
theorem MI.h9 {b d : Int} {τ : ev_M} (h : MI b τ) (h0 : 0 ≤ d) (h1 : d < 6) : 0 ≤ τ (300 + (18 * d + 9)) ∧ τ (300 + (18 * d + 9)) ≤ 63 := by
  have := h (300 + (18 * d + 9))
  rwa [mlo_9 h0 h1, mhi_9 h0 h1] at this
theorem MI.u9 {b d v : Int} {τ : ev_M} (h : MI b τ) (h0 : 0 ≤ d) (h1 : d < 6) (g0 : 0 ≤ v) (g1 : v ≤ 63) : MI b (ev_up τ (300 + (18 * d + 9)) v) := h.up (by rw [mlo_9 h0 h1]; exact g0) (by rw [mhi_9 h0 h1]; exact g1)
theorem mlo_10 {d : Int} (h0 : 0 ≤ d) (h1 : d < 6) : mlo (300 + (18 * d + 10)) = 0 := by
  unfold mlo
  rw [if_pos (by omega), show (300 + (18 * d + 10) - 300) % 18 = 10 by omega]
  rfl
theorem mhi_10 {b d : Int} (h0 : 0 ≤ d) (h1 : d < 6) : mhi b (300 + (18 * d + 10)) = 1 := by
  unfold mhi
  rw [if_pos (by omega), show (300 + (18 * d + 10) - 300) % 18 = 10 by omega]
  rfl
theorem MI.h10 {b d : Int} {τ : ev_M} (h : MI b τ) (h0 : 0 ≤ d) (h1 : d < 6) : 0 ≤ τ (300 + (18 * d + 10)) ∧ τ (300 + (18 * d + 10)) ≤ 1 := by
  have := h (300 + (18 * d + 10))
  rwa [mlo_10 h0 h1, mhi_10 h0 h1] at this
theorem MI.u10 {b d v : Int} {τ : ev_M} (h : MI b τ) (h0 : 0 ≤ d) (h1 : d < 6) (g0 : 0 ≤ v) (g1 : v ≤ 1) : MI b (ev_up τ (300 + (18 * d + 10)) v) := h.up (by rw [mlo_10 h0 h1]; exact g0) (by rw [mhi_10 h0 h1]; exact g1)
theorem mlo_11 {d : Int} (h0 : 0 ≤ d) (h1 : d < 6) : mlo (300 + (18 * d + 11)) = -4 := by
  unfold mlo
  rw [if_pos (by omega), show (300 + (18 * d + 11) - 300) % 18 = 11 by omega]
  rfl
theorem mhi_11 {b d : Int} (h0 : 0 ≤ d) (h1 : d < 6) : mhi b (300 + (18 * d + 11)) = 7 := by
  unfold mhi
  rw [if_pos (by omega), show (300 + (18 * d + 11) - 300) % 18 = 11 by omega]
  rfl
theorem MI.h11 {b d : Int} {τ : ev_M} (h : MI b τ) (h0 : 0 ≤ d) (h1 : d < 6) : -4 ≤ τ (300 + (18 * d + 11)) ∧ τ (300 + (18 * d + 11)) ≤ 7 := by
  have := h (300 + (18 * d + 11))
  rwa [mlo_11 h0 h1, mhi_11 h0 h1] at this
theorem MI.u11 {b d v : Int} {τ : ev_M} (h : MI b τ) (h0 : 0 ≤ d) (h1 : d < 6) (g0 : -4 ≤ v) (g1 : v ≤ 7) : MI b (ev_up τ (300 + (18 * d + 11)) v) := h.up (by rw [mlo_11 h0 h1]; exact g0) (by rw [mhi_11 h0 h1]; exact g1)
theorem mlo_12 {d : Int} (h0 : 0 ≤ d) (h1 : d < 6) : mlo (300 + (18 * d + 12)) = 0 := by
  unfold mlo
  rw [if_pos (by omega), show (300 + (18 * d + 12) - 300) % 18 = 12 by omega]
  rfl
theorem mhi_12 {b d : Int} (h0 : 0 ≤ d) (h1 : d < 6) : mhi b (300 + (18 * d + 12)) = 1 := by
  unfold mhi
  rw [if_pos (by omega), show (300 + (18 * d + 12) - 300) % 18 = 12 by omega]
  rfl
theorem MI.h12 {b d : Int} {τ : ev_M} (h : MI b τ) (h0 : 0 ≤ d) (h1 : d < 6) : 0 ≤ τ (300 + (18 * d + 12)) ∧ τ (300 + (18 * d + 12)) ≤ 1 := by
  have := h (300 + (18 * d + 12))
  rwa [mlo_12 h0 h1, mhi_12 h0 h1] at this
theorem MI.u12 {b d v : Int} {τ : ev_M} (h : MI b τ) (h0 : 0 ≤ d) (h1 : d < 6) (g0 : 0 ≤ v) (g1 : v ≤ 1) : MI b (ev_up τ (300 + (18 * d + 12)) v) := h.up (by rw [mlo_12 h0 h1]; exact g0) (by rw [mhi_12 h0 h1]; exact g1)
theorem mlo_13 {d : Int} (h0 : 0 ≤ d) (h1 : d < 6) : mlo (300 + (18 * d + 13)) = 0 := by
  unfold mlo
  rw [if_pos (by omega), show (300 + (18 * d + 13) - 300) % 18 = 13 by omega]
  rfl
theorem mhi_13 {b d : Int} (h0 : 0 ≤ d) (h1 : d < 6) : mhi b (300 + (18 * d + 13)) = 999 := by
  unfold mhi
  rw [if_pos (by omega), show (300 + (18 * d + 13) - 300) % 18 = 13 by omega]
  rfl
theorem MI.h13 {b d : Int} {τ : ev_M} (h : MI b τ) (h0 : 0 ≤ d) (h1 : d < 6) : 0 ≤ τ (300 + (18 * d + 13)) ∧ τ (300 + (18 * d + 13)) ≤ 999 := by
  have := h (300 + (18 * d + 13))
  rwa [mlo_13 h0 h1, mhi_13 h0 h1] at this
theorem MI.u13 {b d v : Int} {τ : ev_M} (h : MI b τ) (h0 : 0 ≤ d) (h1 : d < 6) (g0 : 0 ≤ v) (g1 : v ≤ 999) : MI b (ev_up τ (300 + (18 * d + 13)) v) := h.up (by rw [mlo_13 h0 h1]; exact g0) (by rw [mhi_13 h0 h1]; exact g1)
theorem mlo_14 {d : Int} (h0 : 0 ≤ d) (h1 : d < 6) : mlo (300 + (18 * d + 14)) = -4 := by
  unfold mlo
  rw [if_pos (by omega), show (300 + (18 * d + 14) - 300) % 18 = 14 by omega]
  rfl
theorem mhi_14 {b d : Int} (h0 : 0 ≤ d) (h1 : d < 6) : mhi b (300 + (18 * d + 14)) = b + 60 := by
  unfold mhi
  rw [if_pos (by omega), show (300 + (18 * d + 14) - 300) % 18 = 14 by omega]
  rfl
theorem MI.h14 {b d : Int} {τ : ev_M} (h : MI b τ) (h0 : 0 ≤ d) (h1 : d < 6) : -4 ≤ τ (300 + (18 * d + 14)) ∧ τ (300 + (18 * d + 14)) ≤ b + 60 := by
  have := h (300 + (18 * d + 14))
  rwa [mlo_14 h0 h1, mhi_14 h0 h1] at this
theorem MI.u14 {b d v : Int} {τ : ev_M} (h : MI b τ) (h0 : 0 ≤ d) (h1 : d < 6) (g0 : -4 ≤ v) (g1 : v ≤ b + 60) : MI b (ev_up τ (300 + (18 * d + 14)) v) := h.up (by rw [mlo_14 h0 h1]; exact g0) (by rw [mhi_14 h0 h1]; exact g1)
theorem mlo_15 {d : Int} (h0 : 0 ≤ d) (h1 : d < 6) : mlo (300 + (18 * d + 15)) = 0 := by
  unfold mlo
  rw [if_pos (by omega), show (300 + (18 * d + 15) - 300) % 18 = 15 by omega]
  rfl
theorem mhi_15 {b d : Int} (h0 : 0 ≤ d) (h1 : d < 6) : mhi b (300 + (18 * d + 15)) = 12 := by
  unfold mhi
  rw [if_pos (by omega), show (300 + (18 * d + 15) - 300) % 18 = 15 by omega]
  rfl
theorem MI.h15 {b d : Int} {τ : ev_M} (h : MI b τ) (h0 : 0 ≤ d) (h1 : d < 6) : 0 ≤ τ (300 + (18 * d + 15)) ∧ τ (300 + (18 * d + 15)) ≤ 12 := by
  have := h (300 + (18 * d + 15))
  rwa [mlo_15 h0 h1, mhi_15 h0 h1] at this
theorem MI.u15 {b d v : Int} {τ : ev_M} (h : MI b τ) (h0 : 0 ≤ d) (h1 : d < 6) (g0 : 0 ≤ v) (g1 : v ≤ 12) : MI b (ev_up τ (300 + (18 * d + 15)) v) := h.up (by rw [mlo_15 h0 h1]; exact g0) (by rw [mhi_15 h0 h1]; exact g1)
theorem mlo_16 {d : Int} (h0 : 0 ≤ d) (h1 : d < 6) : mlo (300 + (18 * d + 16)) = 0 := by
  unfold mlo
  rw [if_pos (by omega), show (300 + (18 * d + 16) - 300) % 18 = 16 by omega]
  rfl
theorem mhi_16 {b d : Int} (h0 : 0 ≤ d) (h1 : d < 6) : mhi b (300 + (18 * d + 16)) = 12 := by
  unfold mhi
  rw [if_pos (by omega), show (300 + (18 * d + 16) - 300) % 18 = 16 by omega]
  rfl
theorem MI.h16 {b d : Int} {τ : ev_M} (h : MI b τ) (h0 : 0 ≤ d) (h1 : d < 6) : 0 ≤ τ (300 + (18 * d + 16)) ∧ τ (300 + (18 * d + 16)) ≤ 12 := by
  have := h (300 + (18 * d + 16))
  rwa [mlo_16 h0 h1, mhi_16 h0 h1] at this
theorem MI.u16 {b d v : Int} {τ : ev_M} (h : MI b τ) (h0 : 0 ≤ d) (h1 : d < 6) (g0 : 0 ≤ v) (g1 : v ≤ 12) : MI b (ev_up τ (300 + (18 * d + 16)) v) := h.up (by rw [mlo_16 h0 h1]; exact g0) (by rw [mhi_16 h0 h1]; exact g1)
theorem mlo_17 {d : Int} (h0 : 0 ≤ d) (h1 : d < 6) : mlo (300 + (18 * d + 17)) = 0 := by
  unfold mlo
  rw [if_pos (by omega), show (300 + (18 * d + 17) - 300) % 18 = 17 by omega]
  rfl
theorem mhi_17 {b d : Int} (h0 : 0 ≤ d) (h1 : d < 6) : mhi b (300 + (18 * d + 17)) = 2 := by
  unfold mhi
  rw [if_pos (by omega), show (300 + (18 * d + 17) - 300) % 18 = 17 by omega]
  rfl
theorem MI.h17 {b d : Int} {τ : ev_M} (h : MI b τ) (h0 : 0 ≤ d) (h1 : d < 6) : 0 ≤ τ (300 + (18 * d + 17)) ∧ τ (300 + (18 * d + 17)) ≤ 2 := by
  have := h (300 + (18 * d + 17))
  rwa [mlo_17 h0 h1, mhi_17 h0 h1] at this
theorem MI.u17 {b d v : Int} {τ : ev_M} (h : MI b τ) (h0 : 0 ≤ d) (h1 : d < 6) (g0 : 0 ≤ v) (g1 : v ≤ 2) : MI b (ev_up τ (300 + (18 * d + 17)) v) := h.up (by rw [mlo_17 h0 h1]; exact g0) (by rw [mhi_17 h0 h1]; exact g1)
theorem MI.s0 {b : Int} {τ : ev_M} (h : MI b τ) : 0 ≤ τ 0 ∧ τ 0 ≤ 200 := h 0
theorem MI.t0 {b v : Int} {τ : ev_M} (h : MI b τ) (g0 : 0 ≤ v) (g1 : v ≤ 200) : MI b (ev_up τ 0 v) := h.up g0 g1
theorem MI.s2 {b : Int} {τ : ev_M} (h : MI b τ) : 0 ≤ τ 2 ∧ τ 2 ≤ 6 := h 2
theorem MI.t2 {b v : Int} {τ : ev_M} (h : MI b τ) (g0 : 0 ≤ v) (g1 : v ≤ 6) : MI b (ev_up τ 2 v) := h.up g0 g1
theorem MI.s5 {b : Int} {τ : ev_M} (h : MI b τ) : 0 ≤ τ 5 ∧ τ 5 ≤ 5 := h 5
theorem MI.t5 {b v : Int} {τ : ev_M} (h : MI b τ) (g0 : 0 ≤ v) (g1 : v ≤ 5) : MI b (ev_up τ 5 v) := h.up g0 g1
theorem MI.s6 {b : Int} {τ : ev_M} (h : MI b τ) : 0 ≤ τ 6 ∧ τ 6 ≤ 1 := h 6
theorem MI.t6 {b v : Int} {τ : ev_M} (h : MI b τ) (g0 : 0 ≤ v) (g1 : v ≤ 1) : MI b (ev_up τ 6 v) := h.up g0 g1
theorem MI.s7 {b : Int} {τ : ev_M} (h : MI b τ) : 0 ≤ τ 7 ∧ τ 7 ≤ b := h 7
theorem MI.t7 {b v : Int} {τ : ev_M} (h : MI b τ) (g0 : 0 ≤ v) (g1 : v ≤ b) : MI b (ev_up τ 7 v) := h.up g0 g1
theorem MI.s8 {b : Int} {τ : ev_M} (h : MI b τ) : -4 ≤ τ 8 ∧ τ 8 ≤ 127 := h 8
theorem MI.t8 {b v : Int} {τ : ev_M} (h : MI b τ) (g0 : -4 ≤ v) (g1 : v ≤ 127) : MI b (ev_up τ 8 v) := h.up g0 g1
theorem MI.s9 {b : Int} {τ : ev_M} (h : MI b τ) : 0 ≤ τ 9 ∧ τ 9 ≤ 63 := h 9
theorem MI.t9 {b v : Int} {τ : ev_M} (h : MI b τ) (g0 : 0 ≤ v) (g1 : v ≤ 63) : MI b (ev_up τ 9 v) := h.up g0 g1
theorem MI.s11 {b : Int} {τ : ev_M} (h : MI b τ) : 0 ≤ τ 11 ∧ τ 11 ≤ 16 := h 11
theorem MI.t11 {b v : Int} {τ : ev_M} (h : MI b τ) (g0 : 0 ≤ v) (g1 : v ≤ 16) : MI b (ev_up τ 11 v) := h.up g0 g1
theorem MI.s15 {b : Int} {τ : ev_M} (h : MI b τ) : 0 ≤ τ 15 ∧ τ 15 ≤ 6 := h 15
theorem MI.t15 {b v : Int} {τ : ev_M} (h : MI b τ) (g0 : 0 ≤ v) (g1 : v ≤ 6) : MI b (ev_up τ 15 v) := h.up g0 g1
theorem MI.s17 {b : Int} {τ : ev_M} (h : MI b τ) : 0 ≤ τ 17 ∧ τ 17 ≤ 99 := h 17
theorem MI.t17 {b v : Int} {τ : ev_M} (h : MI b τ) (g0 : 0 ≤ v) (g1 : v ≤ 99) : MI b (ev_up τ 17 v) := h.up g0 g1
theorem MI.s18 {b : Int} {τ : ev_M} (h : MI b τ) : 0 ≤ τ 18 ∧ τ 18 ≤ 1000 := h 18
theorem MI.t18 {b v : Int} {τ : ev_M} (h : MI b τ) (g0 : 0 ≤ v) (g1 : v ≤ 1000) : MI b (ev_up τ 18 v) := h.up g0 g1
theorem MI.sum {b n : Int} {τ : ev_M} (h : MI b τ) (h0 : 570 ≤ n) (h1 : n < 578) : 0 ≤ τ n ∧ τ n ≤ b := by
  have h2 := h n
  have e1 : mlo n = 0 := by
    unfold mlo
    repeat' split
    all_goals omega
  have e2 : mhi b n = b := by
    unfold mhi
    repeat' split
    all_goals omega
  rwa [e1, e2] at h2
theorem MI.usum {b n v : Int} {τ : ev_M} (h : MI b τ) (h0 : 570 ≤ n) (h1 : n < 578) (g0 : 0 ≤ v) (g1 : v ≤ b) : MI b (ev_up τ n v) := by
  refine h.up ?_ ?_
  · have e1 : mlo n = 0 := by
      unfold mlo
      repeat' split
      all_goals omega
    rw [e1]; exact g0
  · have e2 : mhi b n = b := by
      unfold mhi
      repeat' split
      all_goals omega
    rw [e2]; exact g1
/-- places of which nothing is told: rows, the log -/
theorem MI.ufree {b n v : Int} {τ : ev_M} (h : MI b τ) (h0 : (420 ≤ n ∧ n < 564) ∨ (580 ≤ n ∧ n < 636)) (hv : ev_in v) : MI b (ev_up τ n v) := by
  unfold ev_in at hv
  refine h.up ?_ ?_
  · have e1 : mlo n = -2147483648 := by
      unfold mlo
      repeat' split
      all_goals omega
    rw [e1]; omega
  · have e2 : mhi b n = 2147483647 := by
      unfold mhi
      repeat' split
      all_goals omega
    rw [e2]; omega
theorem it_MI {f : Int → ev_M → ev_M} {s : Int} (hf : ∀ (i : Nat) (b : Int) (τ : ev_M), i < 6 → MI b τ → MI (b + s) (f (i : Int) τ)) {b : Int} {τ : ev_M} (h : MI b τ) : ∀ k : Nat, k ≤ 6 → MI (b + s * k) (it f τ k)
  | 0, _ => by
    rw [show b + s * ((0 : Nat) : Int) = b by simp]; exact h
  | k + 1, hk => by
    have := hf k _ _ (by omega) (it_MI hf h k (by omega))
    rw [show b + s * ((k + 1 : Nat) : Int) = b + s * (k : Int) + s by rw [Int.natCast_succ, Int.mul_add, Int.mul_one, Int.add_assoc]]
    exact this
theorem it_at' {f : Int → ev_M → ev_M} {τ : ev_M} {n : Int} : ∀ (k : Nat), (∀ (i : Nat) (σ : ev_M), i < k → f (i : Int) σ n = σ n) → it f τ k n = τ n
  | 0, _ => rfl
  | k + 1, h => by
    show f (k : Int) (it f τ k) n = τ n
    rw [h k _ (by omega), it_at' k (fun i σ hi => h i σ (by omega))]
