/-! the ranges of the class's numbers (its static rows: just what they hold), b the bound of NOW and of the sums -/
def stv (n : Int) : Int := if n = 503 then 1 else if n = 510 then 2 else if n = 511 then 30 else if n = 512 then 31 else if n = 513 then 9 else if n = 514 then 60 else if n = 520 then 2 else if n = 522 then 31 else if n = 523 then 1 else if n = 525 then 1 else if n = 526 then 4 else if n = 527 then 31 else if n = 528 then 2 else if n = 529 then 5 else if n = 531 then 7 else if n = 532 then 1 else if n = 533 then 1 else if n = 536 then 7 else if n = 537 then 2 else if n = 538 then 4 else if n = 540 then 1 else if n = 541 then 9 else if n = 542 then 31 else if n = 543 then 5 else if n = 544 then 2 else if n = 545 then 2 else if n = 546 then 21 else if n = 547 then 31 else if n = 548 then 1 else 0
def xfl (f : Int) : Int := if f = 14 ∨ f = 17 then -4 else if f = 2 ∨ f = 3 ∨ f = 4 ∨ f = 5 ∨ f = 6 ∨ f = 7 ∨ f = 8 ∨ f = 9 ∨ f = 10 ∨ f = 11 ∨ f = 12 ∨ f = 13 ∨ f = 15 ∨ f = 16 ∨ f = 21 ∨ f = 51 then 0 else -2147483648
def xfh (b f : Int) : Int := if f = 2 then 2 else if f = 3 then 30 else if f = 4 then 31 else if f = 5 then 9 else if f = 6 then 60 else if f = 7 then 63 else if f = 8 then 1 else if f = 9 then 1 else if f = 10 then 1 else if f = 11 then 1 else if f = 12 then 1 else if f = 13 then 2 else if f = 14 then 7 else if f = 15 then 1 else if f = 16 then 999 else if f = 17 then b + 60 else if f = 21 then 12 else if f = 51 then 12 else 2147483647
def xlo (n : Int) : Int := if 1000 ≤ n ∧ n < 1600 then xfl ((n - 1000) % 100) else if 500 ≤ n ∧ n < 550 then stv n else if n = 7 ∨ n = 8 then -4 else if n = 4 ∨ n = 5 ∨ n = 6 ∨ n = 9 ∨ n = 22 ∨ n = 23 ∨ n = 33 ∨ n = 34 ∨ (40 ≤ n ∧ n < 48) ∨ (60 ≤ n ∧ n < 90) ∨ (200 ≤ n ∧ n < 400) then 0 else -2147483648
def xhi (b n : Int) : Int := if 1000 ≤ n ∧ n < 1600 then xfh b ((n - 1000) % 100) else if 500 ≤ n ∧ n < 550 then stv n else if n = 4 then 6 else if n = 5 then b else if n = 6 then 5 else if n = 7 then 5 else if n = 8 then 127 else if n = 9 then 1 else if n = 22 then 200 else if n = 23 then 6 else if n = 33 then 16 else if n = 34 then 15 else if 40 ≤ n ∧ n < 48 then b else if 60 ≤ n ∧ n < 90 then 99 else if 200 ≤ n ∧ n < 400 then 126 else 2147483647
def XI (b : Int) (σ : ev_M) : Prop := ∀ n, xlo n ≤ σ n ∧ σ n ≤ xhi b n
theorem XI.up {b : Int} {σ : ev_M} {n v : Int} (h : XI b σ) (h0 : xlo n ≤ v) (h1 : v ≤ xhi b n) : XI b (ev_up σ n v) := by
  intro k
  unfold ev_up
  split
  · next e => rw [e]; exact ⟨h0, h1⟩
  · exact h k
theorem xfh_mono {b b2 f : Int} (hb : b ≤ b2) : xfh b f ≤ xfh b2 f := by
  unfold xfh
  repeat' split
  all_goals omega
theorem ite_le {c : Prop} {i : Decidable c} {a a' d d' : Int} (h1 : a ≤ a') (h2 : d ≤ d') : @ite Int c i a d ≤ @ite Int c i a' d' := by
  split
  · exact h1
  · exact h2
theorem XI.mono {b b2 : Int} {σ : ev_M} (h : XI b σ) (hb : b ≤ b2) : XI b2 σ := by
  intro k
  refine ⟨(h k).1, Int.le_trans (h k).2 ?_⟩
  unfold xhi
  exact ite_le (xfh_mono hb) (ite_le (Int.le_refl _) (ite_le (by omega) (ite_le (by omega) (ite_le (by omega) (ite_le (by omega) (ite_le (by omega) (ite_le (by omega) (ite_le (by omega) (ite_le (by omega) (ite_le (by omega) (ite_le (by omega) (ite_le (by omega) (ite_le (by omega) (ite_le (by omega) (by omega)))))))))))))))
theorem xlo_2 {i : Int} (h0 : 0 ≤ i) (h1 : i < 6) : xlo (1000 + 100 * i + 2) = 0 := by
  unfold xlo
  rw [if_pos (by omega), show (1000 + 100 * i + 2 - 1000) % 100 = 2 by omega]
  rfl
theorem xhi_2 {b i : Int} (h0 : 0 ≤ i) (h1 : i < 6) : xhi b (1000 + 100 * i + 2) = 2 := by
  unfold xhi
  rw [if_pos (by omega), show (1000 + 100 * i + 2 - 1000) % 100 = 2 by omega]
  rfl
theorem XI.d2 {b i : Int} {σ : ev_M} (h : XI b σ) (h0 : 0 ≤ i) (h1 : i < 6) : 0 ≤ σ (1000 + 100 * i + 2) ∧ σ (1000 + 100 * i + 2) ≤ 2 := by
  have := h (1000 + 100 * i + 2)
  rwa [xlo_2 h0 h1, xhi_2 h0 h1] at this
theorem XI.u2 {b i v : Int} {σ : ev_M} (h : XI b σ) (h0 : 0 ≤ i) (h1 : i < 6) (g0 : 0 ≤ v) (g1 : v ≤ 2) : XI b (ev_up σ (1000 + 100 * i + 2) v) := h.up (by rw [xlo_2 h0 h1]; exact g0) (by rw [xhi_2 h0 h1]; exact g1)
theorem xlo_3 {i : Int} (h0 : 0 ≤ i) (h1 : i < 6) : xlo (1000 + 100 * i + 3) = 0 := by
  unfold xlo
  rw [if_pos (by omega), show (1000 + 100 * i + 3 - 1000) % 100 = 3 by omega]
  rfl
theorem xhi_3 {b i : Int} (h0 : 0 ≤ i) (h1 : i < 6) : xhi b (1000 + 100 * i + 3) = 30 := by
  unfold xhi
  rw [if_pos (by omega), show (1000 + 100 * i + 3 - 1000) % 100 = 3 by omega]
  rfl
theorem XI.d3 {b i : Int} {σ : ev_M} (h : XI b σ) (h0 : 0 ≤ i) (h1 : i < 6) : 0 ≤ σ (1000 + 100 * i + 3) ∧ σ (1000 + 100 * i + 3) ≤ 30 := by
  have := h (1000 + 100 * i + 3)
  rwa [xlo_3 h0 h1, xhi_3 h0 h1] at this
theorem XI.u3 {b i v : Int} {σ : ev_M} (h : XI b σ) (h0 : 0 ≤ i) (h1 : i < 6) (g0 : 0 ≤ v) (g1 : v ≤ 30) : XI b (ev_up σ (1000 + 100 * i + 3) v) := h.up (by rw [xlo_3 h0 h1]; exact g0) (by rw [xhi_3 h0 h1]; exact g1)
theorem xlo_4 {i : Int} (h0 : 0 ≤ i) (h1 : i < 6) : xlo (1000 + 100 * i + 4) = 0 := by
  unfold xlo
  rw [if_pos (by omega), show (1000 + 100 * i + 4 - 1000) % 100 = 4 by omega]
  rfl
theorem xhi_4 {b i : Int} (h0 : 0 ≤ i) (h1 : i < 6) : xhi b (1000 + 100 * i + 4) = 31 := by
  unfold xhi
  rw [if_pos (by omega), show (1000 + 100 * i + 4 - 1000) % 100 = 4 by omega]
  rfl
theorem XI.d4 {b i : Int} {σ : ev_M} (h : XI b σ) (h0 : 0 ≤ i) (h1 : i < 6) : 0 ≤ σ (1000 + 100 * i + 4) ∧ σ (1000 + 100 * i + 4) ≤ 31 := by
  have := h (1000 + 100 * i + 4)
  rwa [xlo_4 h0 h1, xhi_4 h0 h1] at this
theorem XI.u4 {b i v : Int} {σ : ev_M} (h : XI b σ) (h0 : 0 ≤ i) (h1 : i < 6) (g0 : 0 ≤ v) (g1 : v ≤ 31) : XI b (ev_up σ (1000 + 100 * i + 4) v) := h.up (by rw [xlo_4 h0 h1]; exact g0) (by rw [xhi_4 h0 h1]; exact g1)
theorem xlo_5 {i : Int} (h0 : 0 ≤ i) (h1 : i < 6) : xlo (1000 + 100 * i + 5) = 0 := by
  unfold xlo
  rw [if_pos (by omega), show (1000 + 100 * i + 5 - 1000) % 100 = 5 by omega]
  rfl
theorem xhi_5 {b i : Int} (h0 : 0 ≤ i) (h1 : i < 6) : xhi b (1000 + 100 * i + 5) = 9 := by
  unfold xhi
  rw [if_pos (by omega), show (1000 + 100 * i + 5 - 1000) % 100 = 5 by omega]
  rfl
theorem XI.d5 {b i : Int} {σ : ev_M} (h : XI b σ) (h0 : 0 ≤ i) (h1 : i < 6) : 0 ≤ σ (1000 + 100 * i + 5) ∧ σ (1000 + 100 * i + 5) ≤ 9 := by
  have := h (1000 + 100 * i + 5)
  rwa [xlo_5 h0 h1, xhi_5 h0 h1] at this
theorem XI.u5 {b i v : Int} {σ : ev_M} (h : XI b σ) (h0 : 0 ≤ i) (h1 : i < 6) (g0 : 0 ≤ v) (g1 : v ≤ 9) : XI b (ev_up σ (1000 + 100 * i + 5) v) := h.up (by rw [xlo_5 h0 h1]; exact g0) (by rw [xhi_5 h0 h1]; exact g1)
theorem xlo_6 {i : Int} (h0 : 0 ≤ i) (h1 : i < 6) : xlo (1000 + 100 * i + 6) = 0 := by
  unfold xlo
  rw [if_pos (by omega), show (1000 + 100 * i + 6 - 1000) % 100 = 6 by omega]
  rfl
theorem xhi_6 {b i : Int} (h0 : 0 ≤ i) (h1 : i < 6) : xhi b (1000 + 100 * i + 6) = 60 := by
  unfold xhi
  rw [if_pos (by omega), show (1000 + 100 * i + 6 - 1000) % 100 = 6 by omega]
  rfl
theorem XI.d6 {b i : Int} {σ : ev_M} (h : XI b σ) (h0 : 0 ≤ i) (h1 : i < 6) : 0 ≤ σ (1000 + 100 * i + 6) ∧ σ (1000 + 100 * i + 6) ≤ 60 := by
  have := h (1000 + 100 * i + 6)
  rwa [xlo_6 h0 h1, xhi_6 h0 h1] at this
theorem XI.u6 {b i v : Int} {σ : ev_M} (h : XI b σ) (h0 : 0 ≤ i) (h1 : i < 6) (g0 : 0 ≤ v) (g1 : v ≤ 60) : XI b (ev_up σ (1000 + 100 * i + 6) v) := h.up (by rw [xlo_6 h0 h1]; exact g0) (by rw [xhi_6 h0 h1]; exact g1)
theorem xlo_7 {i : Int} (h0 : 0 ≤ i) (h1 : i < 6) : xlo (1000 + 100 * i + 7) = 0 := by
  unfold xlo
  rw [if_pos (by omega), show (1000 + 100 * i + 7 - 1000) % 100 = 7 by omega]
  rfl
theorem xhi_7 {b i : Int} (h0 : 0 ≤ i) (h1 : i < 6) : xhi b (1000 + 100 * i + 7) = 63 := by
  unfold xhi
  rw [if_pos (by omega), show (1000 + 100 * i + 7 - 1000) % 100 = 7 by omega]
  rfl
theorem XI.d7 {b i : Int} {σ : ev_M} (h : XI b σ) (h0 : 0 ≤ i) (h1 : i < 6) : 0 ≤ σ (1000 + 100 * i + 7) ∧ σ (1000 + 100 * i + 7) ≤ 63 := by
  have := h (1000 + 100 * i + 7)
  rwa [xlo_7 h0 h1, xhi_7 h0 h1] at this
theorem XI.u7 {b i v : Int} {σ : ev_M} (h : XI b σ) (h0 : 0 ≤ i) (h1 : i < 6) (g0 : 0 ≤ v) (g1 : v ≤ 63) : XI b (ev_up σ (1000 + 100 * i + 7) v) := h.up (by rw [xlo_7 h0 h1]; exact g0) (by rw [xhi_7 h0 h1]; exact g1)
theorem xlo_8 {i : Int} (h0 : 0 ≤ i) (h1 : i < 6) : xlo (1000 + 100 * i + 8) = 0 := by
  unfold xlo
  rw [if_pos (by omega), show (1000 + 100 * i + 8 - 1000) % 100 = 8 by omega]
  rfl
theorem xhi_8 {b i : Int} (h0 : 0 ≤ i) (h1 : i < 6) : xhi b (1000 + 100 * i + 8) = 1 := by
  unfold xhi
  rw [if_pos (by omega), show (1000 + 100 * i + 8 - 1000) % 100 = 8 by omega]
  rfl
theorem XI.d8 {b i : Int} {σ : ev_M} (h : XI b σ) (h0 : 0 ≤ i) (h1 : i < 6) : 0 ≤ σ (1000 + 100 * i + 8) ∧ σ (1000 + 100 * i + 8) ≤ 1 := by
  have := h (1000 + 100 * i + 8)
  rwa [xlo_8 h0 h1, xhi_8 h0 h1] at this
theorem XI.u8 {b i v : Int} {σ : ev_M} (h : XI b σ) (h0 : 0 ≤ i) (h1 : i < 6) (g0 : 0 ≤ v) (g1 : v ≤ 1) : XI b (ev_up σ (1000 + 100 * i + 8) v) := h.up (by rw [xlo_8 h0 h1]; exact g0) (by rw [xhi_8 h0 h1]; exact g1)
theorem xlo_9 {i : Int} (h0 : 0 ≤ i) (h1 : i < 6) : xlo (1000 + 100 * i + 9) = 0 := by
  unfold xlo
  rw [if_pos (by omega), show (1000 + 100 * i + 9 - 1000) % 100 = 9 by omega]
  rfl
theorem xhi_9 {b i : Int} (h0 : 0 ≤ i) (h1 : i < 6) : xhi b (1000 + 100 * i + 9) = 1 := by
  unfold xhi
  rw [if_pos (by omega), show (1000 + 100 * i + 9 - 1000) % 100 = 9 by omega]
  rfl
theorem XI.d9 {b i : Int} {σ : ev_M} (h : XI b σ) (h0 : 0 ≤ i) (h1 : i < 6) : 0 ≤ σ (1000 + 100 * i + 9) ∧ σ (1000 + 100 * i + 9) ≤ 1 := by
  have := h (1000 + 100 * i + 9)
  rwa [xlo_9 h0 h1, xhi_9 h0 h1] at this
theorem XI.u9 {b i v : Int} {σ : ev_M} (h : XI b σ) (h0 : 0 ≤ i) (h1 : i < 6) (g0 : 0 ≤ v) (g1 : v ≤ 1) : XI b (ev_up σ (1000 + 100 * i + 9) v) := h.up (by rw [xlo_9 h0 h1]; exact g0) (by rw [xhi_9 h0 h1]; exact g1)
theorem xlo_10 {i : Int} (h0 : 0 ≤ i) (h1 : i < 6) : xlo (1000 + 100 * i + 10) = 0 := by
  unfold xlo
  rw [if_pos (by omega), show (1000 + 100 * i + 10 - 1000) % 100 = 10 by omega]
  rfl
theorem xhi_10 {b i : Int} (h0 : 0 ≤ i) (h1 : i < 6) : xhi b (1000 + 100 * i + 10) = 1 := by
  unfold xhi
  rw [if_pos (by omega), show (1000 + 100 * i + 10 - 1000) % 100 = 10 by omega]
  rfl
theorem XI.d10 {b i : Int} {σ : ev_M} (h : XI b σ) (h0 : 0 ≤ i) (h1 : i < 6) : 0 ≤ σ (1000 + 100 * i + 10) ∧ σ (1000 + 100 * i + 10) ≤ 1 := by
  have := h (1000 + 100 * i + 10)
  rwa [xlo_10 h0 h1, xhi_10 h0 h1] at this
theorem XI.u10 {b i v : Int} {σ : ev_M} (h : XI b σ) (h0 : 0 ≤ i) (h1 : i < 6) (g0 : 0 ≤ v) (g1 : v ≤ 1) : XI b (ev_up σ (1000 + 100 * i + 10) v) := h.up (by rw [xlo_10 h0 h1]; exact g0) (by rw [xhi_10 h0 h1]; exact g1)
theorem xlo_11 {i : Int} (h0 : 0 ≤ i) (h1 : i < 6) : xlo (1000 + 100 * i + 11) = 0 := by
  unfold xlo
  rw [if_pos (by omega), show (1000 + 100 * i + 11 - 1000) % 100 = 11 by omega]
  rfl
theorem xhi_11 {b i : Int} (h0 : 0 ≤ i) (h1 : i < 6) : xhi b (1000 + 100 * i + 11) = 1 := by
  unfold xhi
  rw [if_pos (by omega), show (1000 + 100 * i + 11 - 1000) % 100 = 11 by omega]
  rfl
theorem XI.d11 {b i : Int} {σ : ev_M} (h : XI b σ) (h0 : 0 ≤ i) (h1 : i < 6) : 0 ≤ σ (1000 + 100 * i + 11) ∧ σ (1000 + 100 * i + 11) ≤ 1 := by
  have := h (1000 + 100 * i + 11)
  rwa [xlo_11 h0 h1, xhi_11 h0 h1] at this
theorem XI.u11 {b i v : Int} {σ : ev_M} (h : XI b σ) (h0 : 0 ≤ i) (h1 : i < 6) (g0 : 0 ≤ v) (g1 : v ≤ 1) : XI b (ev_up σ (1000 + 100 * i + 11) v) := h.up (by rw [xlo_11 h0 h1]; exact g0) (by rw [xhi_11 h0 h1]; exact g1)
theorem xlo_12 {i : Int} (h0 : 0 ≤ i) (h1 : i < 6) : xlo (1000 + 100 * i + 12) = 0 := by
  unfold xlo
  rw [if_pos (by omega), show (1000 + 100 * i + 12 - 1000) % 100 = 12 by omega]
  rfl
theorem xhi_12 {b i : Int} (h0 : 0 ≤ i) (h1 : i < 6) : xhi b (1000 + 100 * i + 12) = 1 := by
  unfold xhi
  rw [if_pos (by omega), show (1000 + 100 * i + 12 - 1000) % 100 = 12 by omega]
  rfl
theorem XI.d12 {b i : Int} {σ : ev_M} (h : XI b σ) (h0 : 0 ≤ i) (h1 : i < 6) : 0 ≤ σ (1000 + 100 * i + 12) ∧ σ (1000 + 100 * i + 12) ≤ 1 := by
  have := h (1000 + 100 * i + 12)
  rwa [xlo_12 h0 h1, xhi_12 h0 h1] at this
theorem XI.u12 {b i v : Int} {σ : ev_M} (h : XI b σ) (h0 : 0 ≤ i) (h1 : i < 6) (g0 : 0 ≤ v) (g1 : v ≤ 1) : XI b (ev_up σ (1000 + 100 * i + 12) v) := h.up (by rw [xlo_12 h0 h1]; exact g0) (by rw [xhi_12 h0 h1]; exact g1)
theorem xlo_13 {i : Int} (h0 : 0 ≤ i) (h1 : i < 6) : xlo (1000 + 100 * i + 13) = 0 := by
  unfold xlo
  rw [if_pos (by omega), show (1000 + 100 * i + 13 - 1000) % 100 = 13 by omega]
  rfl
theorem xhi_13 {b i : Int} (h0 : 0 ≤ i) (h1 : i < 6) : xhi b (1000 + 100 * i + 13) = 2 := by
  unfold xhi
  rw [if_pos (by omega), show (1000 + 100 * i + 13 - 1000) % 100 = 13 by omega]
  rfl
theorem XI.d13 {b i : Int} {σ : ev_M} (h : XI b σ) (h0 : 0 ≤ i) (h1 : i < 6) : 0 ≤ σ (1000 + 100 * i + 13) ∧ σ (1000 + 100 * i + 13) ≤ 2 := by
  have := h (1000 + 100 * i + 13)
  rwa [xlo_13 h0 h1, xhi_13 h0 h1] at this
theorem XI.u13 {b i v : Int} {σ : ev_M} (h : XI b σ) (h0 : 0 ≤ i) (h1 : i < 6) (g0 : 0 ≤ v) (g1 : v ≤ 2) : XI b (ev_up σ (1000 + 100 * i + 13) v) := h.up (by rw [xlo_13 h0 h1]; exact g0) (by rw [xhi_13 h0 h1]; exact g1)
theorem xlo_14 {i : Int} (h0 : 0 ≤ i) (h1 : i < 6) : xlo (1000 + 100 * i + 14) = -4 := by
  unfold xlo
  rw [if_pos (by omega), show (1000 + 100 * i + 14 - 1000) % 100 = 14 by omega]
  rfl
theorem xhi_14 {b i : Int} (h0 : 0 ≤ i) (h1 : i < 6) : xhi b (1000 + 100 * i + 14) = 7 := by
  unfold xhi
  rw [if_pos (by omega), show (1000 + 100 * i + 14 - 1000) % 100 = 14 by omega]
  rfl
theorem XI.d14 {b i : Int} {σ : ev_M} (h : XI b σ) (h0 : 0 ≤ i) (h1 : i < 6) : -4 ≤ σ (1000 + 100 * i + 14) ∧ σ (1000 + 100 * i + 14) ≤ 7 := by
  have := h (1000 + 100 * i + 14)
  rwa [xlo_14 h0 h1, xhi_14 h0 h1] at this
theorem XI.u14 {b i v : Int} {σ : ev_M} (h : XI b σ) (h0 : 0 ≤ i) (h1 : i < 6) (g0 : -4 ≤ v) (g1 : v ≤ 7) : XI b (ev_up σ (1000 + 100 * i + 14) v) := h.up (by rw [xlo_14 h0 h1]; exact g0) (by rw [xhi_14 h0 h1]; exact g1)
theorem xlo_15 {i : Int} (h0 : 0 ≤ i) (h1 : i < 6) : xlo (1000 + 100 * i + 15) = 0 := by
  unfold xlo
  rw [if_pos (by omega), show (1000 + 100 * i + 15 - 1000) % 100 = 15 by omega]
  rfl
theorem xhi_15 {b i : Int} (h0 : 0 ≤ i) (h1 : i < 6) : xhi b (1000 + 100 * i + 15) = 1 := by
  unfold xhi
  rw [if_pos (by omega), show (1000 + 100 * i + 15 - 1000) % 100 = 15 by omega]
  rfl
theorem XI.d15 {b i : Int} {σ : ev_M} (h : XI b σ) (h0 : 0 ≤ i) (h1 : i < 6) : 0 ≤ σ (1000 + 100 * i + 15) ∧ σ (1000 + 100 * i + 15) ≤ 1 := by
  have := h (1000 + 100 * i + 15)
  rwa [xlo_15 h0 h1, xhi_15 h0 h1] at this
theorem XI.u15 {b i v : Int} {σ : ev_M} (h : XI b σ) (h0 : 0 ≤ i) (h1 : i < 6) (g0 : 0 ≤ v) (g1 : v ≤ 1) : XI b (ev_up σ (1000 + 100 * i + 15) v) := h.up (by rw [xlo_15 h0 h1]; exact g0) (by rw [xhi_15 h0 h1]; exact g1)
theorem xlo_16 {i : Int} (h0 : 0 ≤ i) (h1 : i < 6) : xlo (1000 + 100 * i + 16) = 0 := by
  unfold xlo
  rw [if_pos (by omega), show (1000 + 100 * i + 16 - 1000) % 100 = 16 by omega]
  rfl
theorem xhi_16 {b i : Int} (h0 : 0 ≤ i) (h1 : i < 6) : xhi b (1000 + 100 * i + 16) = 999 := by
  unfold xhi
  rw [if_pos (by omega), show (1000 + 100 * i + 16 - 1000) % 100 = 16 by omega]
  rfl
theorem XI.d16 {b i : Int} {σ : ev_M} (h : XI b σ) (h0 : 0 ≤ i) (h1 : i < 6) : 0 ≤ σ (1000 + 100 * i + 16) ∧ σ (1000 + 100 * i + 16) ≤ 999 := by
  have := h (1000 + 100 * i + 16)
  rwa [xlo_16 h0 h1, xhi_16 h0 h1] at this
theorem XI.u16 {b i v : Int} {σ : ev_M} (h : XI b σ) (h0 : 0 ≤ i) (h1 : i < 6) (g0 : 0 ≤ v) (g1 : v ≤ 999) : XI b (ev_up σ (1000 + 100 * i + 16) v) := h.up (by rw [xlo_16 h0 h1]; exact g0) (by rw [xhi_16 h0 h1]; exact g1)
theorem xlo_17 {i : Int} (h0 : 0 ≤ i) (h1 : i < 6) : xlo (1000 + 100 * i + 17) = -4 := by
  unfold xlo
  rw [if_pos (by omega), show (1000 + 100 * i + 17 - 1000) % 100 = 17 by omega]
  rfl
theorem xhi_17 {b i : Int} (h0 : 0 ≤ i) (h1 : i < 6) : xhi b (1000 + 100 * i + 17) = b + 60 := by
  unfold xhi
  rw [if_pos (by omega), show (1000 + 100 * i + 17 - 1000) % 100 = 17 by omega]
  rfl
theorem XI.d17 {b i : Int} {σ : ev_M} (h : XI b σ) (h0 : 0 ≤ i) (h1 : i < 6) : -4 ≤ σ (1000 + 100 * i + 17) ∧ σ (1000 + 100 * i + 17) ≤ b + 60 := by
  have := h (1000 + 100 * i + 17)
  rwa [xlo_17 h0 h1, xhi_17 h0 h1] at this
theorem XI.u17 {b i v : Int} {σ : ev_M} (h : XI b σ) (h0 : 0 ≤ i) (h1 : i < 6) (g0 : -4 ≤ v) (g1 : v ≤ b + 60) : XI b (ev_up σ (1000 + 100 * i + 17) v) := h.up (by rw [xlo_17 h0 h1]; exact g0) (by rw [xhi_17 h0 h1]; exact g1)
theorem xlo_21 {i : Int} (h0 : 0 ≤ i) (h1 : i < 6) : xlo (1000 + 100 * i + 20 + 1) = 0 := by
  unfold xlo
  rw [if_pos (by omega), show (1000 + 100 * i + 20 + 1 - 1000) % 100 = 21 by omega]
  rfl
theorem xhi_21 {b i : Int} (h0 : 0 ≤ i) (h1 : i < 6) : xhi b (1000 + 100 * i + 20 + 1) = 12 := by
  unfold xhi
  rw [if_pos (by omega), show (1000 + 100 * i + 20 + 1 - 1000) % 100 = 21 by omega]
  rfl
theorem XI.d21 {b i : Int} {σ : ev_M} (h : XI b σ) (h0 : 0 ≤ i) (h1 : i < 6) : 0 ≤ σ (1000 + 100 * i + 20 + 1) ∧ σ (1000 + 100 * i + 20 + 1) ≤ 12 := by
  have := h (1000 + 100 * i + 20 + 1)
  rwa [xlo_21 h0 h1, xhi_21 h0 h1] at this
theorem XI.u21 {b i v : Int} {σ : ev_M} (h : XI b σ) (h0 : 0 ≤ i) (h1 : i < 6) (g0 : 0 ≤ v) (g1 : v ≤ 12) : XI b (ev_up σ (1000 + 100 * i + 20 + 1) v) := h.up (by rw [xlo_21 h0 h1]; exact g0) (by rw [xhi_21 h0 h1]; exact g1)
theorem xlo_51 {i : Int} (h0 : 0 ≤ i) (h1 : i < 6) : xlo (1000 + 100 * i + 50 + 1) = 0 := by
  unfold xlo
  rw [if_pos (by omega), show (1000 + 100 * i + 50 + 1 - 1000) % 100 = 51 by omega]
  rfl
theorem xhi_51 {b i : Int} (h0 : 0 ≤ i) (h1 : i < 6) : xhi b (1000 + 100 * i + 50 + 1) = 12 := by
  unfold xhi
  rw [if_pos (by omega), show (1000 + 100 * i + 50 + 1 - 1000) % 100 = 51 by omega]
  rfl
theorem XI.d51 {b i : Int} {σ : ev_M} (h : XI b σ) (h0 : 0 ≤ i) (h1 : i < 6) : 0 ≤ σ (1000 + 100 * i + 50 + 1) ∧ σ (1000 + 100 * i + 50 + 1) ≤ 12 := by
  have := h (1000 + 100 * i + 50 + 1)
  rwa [xlo_51 h0 h1, xhi_51 h0 h1] at this
theorem XI.u51 {b i v : Int} {σ : ev_M} (h : XI b σ) (h0 : 0 ≤ i) (h1 : i < 6) (g0 : 0 ≤ v) (g1 : v ≤ 12) : XI b (ev_up σ (1000 + 100 * i + 50 + 1) v) := h.up (by rw [xlo_51 h0 h1]; exact g0) (by rw [xhi_51 h0 h1]; exact g1)
theorem XI.s4 {b : Int} {σ : ev_M} (h : XI b σ) : 0 ≤ σ 4 ∧ σ 4 ≤ 6 := h 4
theorem XI.t4 {b v : Int} {σ : ev_M} (h : XI b σ) (g0 : 0 ≤ v) (g1 : v ≤ 6) : XI b (ev_up σ 4 v) := h.up g0 g1
theorem XI.s5 {b : Int} {σ : ev_M} (h : XI b σ) : 0 ≤ σ 5 ∧ σ 5 ≤ b := h 5
theorem XI.t5 {b v : Int} {σ : ev_M} (h : XI b σ) (g0 : 0 ≤ v) (g1 : v ≤ b) : XI b (ev_up σ 5 v) := h.up g0 g1
theorem XI.s6 {b : Int} {σ : ev_M} (h : XI b σ) : 0 ≤ σ 6 ∧ σ 6 ≤ 5 := h 6
theorem XI.t6 {b v : Int} {σ : ev_M} (h : XI b σ) (g0 : 0 ≤ v) (g1 : v ≤ 5) : XI b (ev_up σ 6 v) := h.up g0 g1
theorem XI.s7 {b : Int} {σ : ev_M} (h : XI b σ) : -4 ≤ σ 7 ∧ σ 7 ≤ 5 := h 7
theorem XI.t7 {b v : Int} {σ : ev_M} (h : XI b σ) (g0 : -4 ≤ v) (g1 : v ≤ 5) : XI b (ev_up σ 7 v) := h.up g0 g1
theorem XI.s8 {b : Int} {σ : ev_M} (h : XI b σ) : -4 ≤ σ 8 ∧ σ 8 ≤ 127 := h 8
theorem XI.t8 {b v : Int} {σ : ev_M} (h : XI b σ) (g0 : -4 ≤ v) (g1 : v ≤ 127) : XI b (ev_up σ 8 v) := h.up g0 g1
theorem XI.s9 {b : Int} {σ : ev_M} (h : XI b σ) : 0 ≤ σ 9 ∧ σ 9 ≤ 1 := h 9
theorem XI.t9 {b v : Int} {σ : ev_M} (h : XI b σ) (g0 : 0 ≤ v) (g1 : v ≤ 1) : XI b (ev_up σ 9 v) := h.up g0 g1
theorem XI.s22 {b : Int} {σ : ev_M} (h : XI b σ) : 0 ≤ σ 22 ∧ σ 22 ≤ 200 := h 22
theorem XI.t22 {b v : Int} {σ : ev_M} (h : XI b σ) (g0 : 0 ≤ v) (g1 : v ≤ 200) : XI b (ev_up σ 22 v) := h.up g0 g1
theorem XI.s23 {b : Int} {σ : ev_M} (h : XI b σ) : 0 ≤ σ 23 ∧ σ 23 ≤ 6 := h 23
theorem XI.t23 {b v : Int} {σ : ev_M} (h : XI b σ) (g0 : 0 ≤ v) (g1 : v ≤ 6) : XI b (ev_up σ 23 v) := h.up g0 g1
theorem XI.s33 {b : Int} {σ : ev_M} (h : XI b σ) : 0 ≤ σ 33 ∧ σ 33 ≤ 16 := h 33
theorem XI.t33 {b v : Int} {σ : ev_M} (h : XI b σ) (g0 : 0 ≤ v) (g1 : v ≤ 16) : XI b (ev_up σ 33 v) := h.up g0 g1
theorem XI.s34 {b : Int} {σ : ev_M} (h : XI b σ) : 0 ≤ σ 34 ∧ σ 34 ≤ 15 := h 34
theorem XI.t34 {b v : Int} {σ : ev_M} (h : XI b σ) (g0 : 0 ≤ v) (g1 : v ≤ 15) : XI b (ev_up σ 34 v) := h.up g0 g1
theorem XI.st500 {b : Int} {σ : ev_M} (h : XI b σ) : σ 500 = 0 := by have := h 500; exact Int.le_antisymm this.2 this.1
theorem XI.st501 {b : Int} {σ : ev_M} (h : XI b σ) : σ 501 = 0 := by have := h 501; exact Int.le_antisymm this.2 this.1
theorem XI.st502 {b : Int} {σ : ev_M} (h : XI b σ) : σ 502 = 0 := by have := h 502; exact Int.le_antisymm this.2 this.1
theorem XI.st503 {b : Int} {σ : ev_M} (h : XI b σ) : σ 503 = 1 := by have := h 503; exact Int.le_antisymm this.2 this.1
theorem XI.st504 {b : Int} {σ : ev_M} (h : XI b σ) : σ 504 = 0 := by have := h 504; exact Int.le_antisymm this.2 this.1
theorem XI.st510 {b : Int} {σ : ev_M} (h : XI b σ) : σ 510 = 2 := by have := h 510; exact Int.le_antisymm this.2 this.1
theorem XI.st511 {b : Int} {σ : ev_M} (h : XI b σ) : σ 511 = 30 := by have := h 511; exact Int.le_antisymm this.2 this.1
theorem XI.st512 {b : Int} {σ : ev_M} (h : XI b σ) : σ 512 = 31 := by have := h 512; exact Int.le_antisymm this.2 this.1
theorem XI.st513 {b : Int} {σ : ev_M} (h : XI b σ) : σ 513 = 9 := by have := h 513; exact Int.le_antisymm this.2 this.1
theorem XI.st514 {b : Int} {σ : ev_M} (h : XI b σ) : σ 514 = 60 := by have := h 514; exact Int.le_antisymm this.2 this.1
theorem XI.sum {b n : Int} {σ : ev_M} (h : XI b σ) (h0 : 40 ≤ n ∧ n < 48) : 0 ≤ σ n ∧ σ n ≤ b := by
  have h2 := h n
  have e1 : xlo n = 0 := by
    unfold xlo
    repeat' split
    all_goals first | omega | (exfalso; omega)
  have e2 : xhi b n = b := by
    unfold xhi
    repeat' split
    all_goals first | omega | (exfalso; omega)
  rwa [e1, e2] at h2
theorem XI.usum {b n v : Int} {σ : ev_M} (h : XI b σ) (h0 : 40 ≤ n ∧ n < 48) (g0 : 0 ≤ v) (g1 : v ≤ b) : XI b (ev_up σ n v) := by
  refine h.up ?_ ?_
  · have e1 : xlo n = 0 := by
      unfold xlo
      repeat' split
      all_goals first | omega | (exfalso; omega)
    rw [e1]; exact g0
  · have e2 : xhi b n = b := by
      unfold xhi
      repeat' split
      all_goals first | omega | (exfalso; omega)
    rw [e2]; exact g1
theorem XI.num {b n : Int} {σ : ev_M} (h : XI b σ) (h0 : 60 ≤ n ∧ n < 90) : 0 ≤ σ n ∧ σ n ≤ 99 := by
  have h2 := h n
  have e1 : xlo n = 0 := by
    unfold xlo
    repeat' split
    all_goals first | omega | (exfalso; omega)
  have e2 : xhi b n = 99 := by
    unfold xhi
    repeat' split
    all_goals first | omega | (exfalso; omega)
  rwa [e1, e2] at h2
theorem XI.unum {b n v : Int} {σ : ev_M} (h : XI b σ) (h0 : 60 ≤ n ∧ n < 90) (g0 : 0 ≤ v) (g1 : v ≤ 99) : XI b (ev_up σ n v) := by
  refine h.up ?_ ?_
  · have e1 : xlo n = 0 := by
      unfold xlo
      repeat' split
      all_goals first | omega | (exfalso; omega)
    rw [e1]; exact g0
  · have e2 : xhi b n = 99 := by
      unfold xhi
      repeat' split
      all_goals first | omega | (exfalso; omega)
    rw [e2]; exact g1
theorem XI.ltr {b n : Int} {σ : ev_M} (h : XI b σ) (h0 : 200 ≤ n ∧ n < 400) : 0 ≤ σ n ∧ σ n ≤ 126 := by
  have h2 := h n
  have e1 : xlo n = 0 := by
    unfold xlo
    repeat' split
    all_goals first | omega | (exfalso; omega)
  have e2 : xhi b n = 126 := by
    unfold xhi
    repeat' split
    all_goals first | omega | (exfalso; omega)
  rwa [e1, e2] at h2
theorem XI.ultr {b n v : Int} {σ : ev_M} (h : XI b σ) (h0 : 200 ≤ n ∧ n < 400) (g0 : 0 ≤ v) (g1 : v ≤ 126) : XI b (ev_up σ n v) := by
  refine h.up ?_ ?_
  · have e1 : xlo n = 0 := by
      unfold xlo
      repeat' split
      all_goals first | omega | (exfalso; omega)
    rw [e1]; exact g0
  · have e2 : xhi b n = 126 := by
      unfold xhi
      repeat' split
      all_goals first | omega | (exfalso; omega)
    rw [e2]; exact g1
theorem XI.lgf {b n : Int} {σ : ev_M} (h : XI b σ) (h0 : 100 ≤ n ∧ n < 160) : -2147483648 ≤ σ n ∧ σ n ≤ 2147483647 := by
  have h2 := h n
  have e1 : xlo n = -2147483648 := by
    unfold xlo
    repeat' split
    all_goals first | omega | (exfalso; omega)
  have e2 : xhi b n = 2147483647 := by
    unfold xhi
    repeat' split
    all_goals first | omega | (exfalso; omega)
  rwa [e1, e2] at h2
theorem XI.ulgf {b n v : Int} {σ : ev_M} (h : XI b σ) (h0 : 100 ≤ n ∧ n < 160) (g0 : -2147483648 ≤ v) (g1 : v ≤ 2147483647) : XI b (ev_up σ n v) := by
  refine h.up ?_ ?_
  · have e1 : xlo n = -2147483648 := by
      unfold xlo
      repeat' split
      all_goals first | omega | (exfalso; omega)
    rw [e1]; exact g0
  · have e2 : xhi b n = 2147483647 := by
      unfold xhi
      repeat' split
      all_goals first | omega | (exfalso; omega)
    rw [e2]; exact g1
theorem XI.st {b n : Int} {σ : ev_M} (h : XI b σ) (h0 : 500 ≤ n ∧ n < 550) : σ n = stv n := by
  have h2 := h n
  have e1 : xlo n = stv n := by
    unfold xlo
    rw [if_neg (by omega), if_pos h0]
  have e2 : xhi b n = stv n := by
    unfold xhi
    rw [if_neg (by omega), if_pos h0]
  rw [e1, e2] at h2
  omega
theorem XI.ubyte {b i j v : Int} {σ : ev_M} (h : XI b σ) (h0 : 0 ≤ i) (h1 : i < 6) (hj : (30 ≤ j ∧ j < 42) ∨ (60 ≤ j ∧ j < 72)) (hv : ev_in v) : XI b (ev_up σ (1000 + 100 * i + j) v) := by
  unfold ev_in at hv
  refine h.up ?_ ?_
  · have e1 : xlo (1000 + 100 * i + j) = -2147483648 := by
      unfold xlo
      rw [if_pos (by omega), show (1000 + 100 * i + j - 1000) % 100 = j by omega]
      unfold xfl
      rw [if_neg (by omega), if_neg (by omega)]
    rw [e1]; omega
  · have e2 : xhi b (1000 + 100 * i + j) = 2147483647 := by
      unfold xhi
      rw [if_pos (by omega), show (1000 + 100 * i + j - 1000) % 100 = j by omega]
      unfold xfh
      repeat' split
      all_goals omega
    rw [e2]; omega
theorem XI.inb {b i j : Int} {σ : ev_M} (h : XI b σ) (h0 : 0 ≤ i) (h1 : i < 6) (hj : (30 ≤ j ∧ j < 42) ∨ (60 ≤ j ∧ j < 72)) : ev_in (σ (1000 + 100 * i + j)) := by
  have h2 := h (1000 + 100 * i + j)
  have e1 : xlo (1000 + 100 * i + j) = -2147483648 := by
    unfold xlo
    rw [if_pos (by omega), show (1000 + 100 * i + j - 1000) % 100 = j by omega]
    unfold xfl
    rw [if_neg (by omega), if_neg (by omega)]
  have e2 : xhi b (1000 + 100 * i + j) = 2147483647 := by
    unfold xhi
    rw [if_pos (by omega), show (1000 + 100 * i + j - 1000) % 100 = j by omega]
    unfold xfh
    repeat' split
    all_goals omega
  rw [e1, e2] at h2
  unfold ev_in
  omega
theorem it_XI {f : Int → ev_M → ev_M} {s : Int} (hf : ∀ (i : Nat) (b : Int) (τ : ev_M), i < 6 → XI b τ → XI (b + s) (f (i : Int) τ)) {b : Int} {τ : ev_M} (h : XI b τ) : ∀ k : Nat, k ≤ 6 → XI (b + s * k) (it f τ k)
  | 0, _ => by
    rw [show b + s * ((0 : Nat) : Int) = b by simp]; exact h
  | k + 1, hk => by
    have := hf k _ _ (by omega) (it_XI hf h k (by omega))
    rw [show b + s * ((k + 1 : Nat) : Int) = b + s * (k : Int) + s by rw [Int.natCast_succ, Int.mul_add, Int.mul_one, Int.add_assoc]]
    exact this
theorem it_XI0 {f : Int → ev_M → ev_M} (hf : ∀ (i : Nat) (b : Int) (τ : ev_M), i < 6 → XI b τ → XI b (f (i : Int) τ)) {b : Int} {τ : ev_M} (h : XI b τ) : ∀ k : Nat, k ≤ 6 → XI b (it f τ k)
  | 0, _ => h
  | k + 1, hk => hf k _ _ (by omega) (it_XI0 hf h k (by omega))
theorem it_XI1 {f : Int → ev_M → ev_M} (hf : ∀ (i : Nat) (b : Int) (τ : ev_M), i < 6 → XI b τ → XI (b + 1) (f (i : Int) τ)) {b : Int} {τ : ev_M} (h : XI b τ) (k : Nat) (hk : k ≤ 6) : XI (b + 6) (it f τ k) := (it_XI hf h k hk).mono (by omega)
theorem XI.nat4 {b : Int} {σ : ev_M} (h : XI b σ) : (σ 4).toNat ≤ 6 := by have := h.s4; omega
theorem lx_ob {i : Int} (h0 : 0 ≤ i) (h1 : i < 6) : (1000 + 100 * i + 20 + 10, 12, 1, 0) ∈ layX := by rw [show 1000 + 100 * i + 20 + 10 = 1000 + 100 * i + 30 by omega]; exact lx_outb h0 h1
theorem lx_ib {i : Int} (h0 : 0 ≤ i) (h1 : i < 6) : (1000 + 100 * i + 50 + 10, 12, 1, 0) ∈ layX := by rw [show 1000 + 100 * i + 50 + 10 = 1000 + 100 * i + 60 by omega]; exact lx_innb h0 h1
