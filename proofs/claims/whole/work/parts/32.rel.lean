/-! what both stores say -/
def fxw (w : Int) : Int := if w = 0 then 2 else if w = 1 then 3 else if w = 2 then 4 else if w = 3 then 5 else if w = 4 then 6 else if w = 6 then 9 else if w = 7 then 10 else if w = 8 then 11 else if w = 9 then 7 else if w = 10 then 8 else if w = 11 then 14 else if w = 13 then 16 else if w = 14 then 17 else if w = 15 then 21 else 51
/-- where the class keeps what the model keeps at n -/
def lc (n : Int) : Int := if n = 2 then 4 else if n = 7 then 5 else if n = 5 then 6 else if n = 6 then 9 else if n = 8 then 8 else if n = 0 then 22 else if n = 11 then 33 else if 100 ≤ n ∧ n < 300 then n + 100 else if 570 ≤ n then n - 530 else if n < 408 then 1000 + 100 * ((n - 300) / 18) + fxw ((n - 300) % 18) else 1000 + 100 * ((n - 420) / 24) + (if (n - 420) % 24 < 12 then 30 + (n - 420) % 24 else 48 + (n - 420) % 24)
def ilc (m : Int) : Int := if m = 4 then 2 else if m = 5 then 7 else if m = 6 then 5 else if m = 9 then 6 else if m = 8 then 8 else if m = 22 then 0 else if m = 33 then 11 else if m < 100 then m + 530 else if m < 1000 then m - 100 else if (m - 1000) % 100 = 21 then 300 + (18 * ((m - 1000) / 100) + 15) else if (m - 1000) % 100 = 51 then 300 + (18 * ((m - 1000) / 100) + 16) else if 30 ≤ (m - 1000) % 100 ∧ (m - 1000) % 100 < 42 then 420 + 24 * ((m - 1000) / 100) + ((m - 1000) % 100 - 30) else if 60 ≤ (m - 1000) % 100 then 420 + 24 * ((m - 1000) / 100) + ((m - 1000) % 100 - 48) else 300 + (18 * ((m - 1000) / 100) + (if (m - 1000) % 100 = 2 then 0 else if (m - 1000) % 100 = 3 then 1 else if (m - 1000) % 100 = 4 then 2 else if (m - 1000) % 100 = 5 then 3 else if (m - 1000) % 100 = 6 then 4 else if (m - 1000) % 100 = 9 then 6 else if (m - 1000) % 100 = 10 then 7 else if (m - 1000) % 100 = 11 then 8 else if (m - 1000) % 100 = 7 then 9 else if (m - 1000) % 100 = 8 then 10 else if (m - 1000) % 100 = 14 then 11 else if (m - 1000) % 100 = 16 then 13 else 14))
abbrev rel (c n : Int) : Prop := n = 2 ∨ n = 7 ∨ n = 5 ∨ n = 6 ∨ n = 8 ∨ n = 0 ∨ n = 11 ∨ (100 ≤ n ∧ n < 300) ∨ (570 ≤ n ∧ n < 578) ∨ (300 ≤ n ∧ n < 300 + 18 * c ∧ (n - 300) % 18 ≠ 5 ∧ (n - 300) % 18 ≠ 12 ∧ (n - 300) % 18 ≠ 17) ∨ (420 ≤ n ∧ n < 564)
/-- x's places that no place of the model's stands for -/
abbrev xo (m : Int) : Prop := m = 7 ∨ m = 34 ∨ m = 23 ∨ (60 ≤ m ∧ m < 90) ∨ (100 ≤ m ∧ m < 160) ∨ (1000 ≤ m ∧ m < 1600 ∧ ((m - 1000) % 100 = 12 ∨ (m - 1000) % 100 = 13 ∨ (m - 1000) % 100 = 15))
theorem lc_all : ∀ n : Fin 578, rel 6 ((n : Nat) : Int) → ilc (lc ((n : Nat) : Int)) = ((n : Nat) : Int) ∧ ¬ xo (lc ((n : Nat) : Int)) := by decide +kernel
theorem rel_rng {n : Int} (h : rel 6 n) : 0 ≤ n ∧ n < 578 := by unfold rel at h; omega
theorem rel6 {c n : Int} (hc : c ≤ 6) (h : rel c n) : rel 6 n := by unfold rel at h ⊢; omega
theorem lc_p {n : Int} (h : rel 6 n) : ilc (lc n) = n ∧ ¬ xo (lc n) := by
  obtain ⟨h0, h1⟩ := rel_rng h
  have := lc_all ⟨n.toNat, by omega⟩
  have e : ((n.toNat : Nat) : Int) = n := by omega
  simp only [e] at this
  exact this h
theorem lc_inj {n n' : Int} (h : rel 6 n) (h' : rel 6 n') (e : lc n = lc n') : n = n' := by rw [← (lc_p h).1, ← (lc_p h').1, e]
def R0 (c : Int) (σ τ : ev_M) : Prop := ∀ n, rel c n → τ n = σ (lc n)
theorem R0.up {c n m v : Int} {σ τ : ev_M} (h : R0 c σ τ) (hc : c ≤ 6) (hn : rel 6 n) (e : lc n = m) : R0 c (ev_up σ m v) (ev_up τ n v) := by
  intro k hk
  by_cases hkn : k = n
  · rw [hkn, ev_up_eq, e, ev_up_eq]
  · rw [ev_up_ne hkn, ev_up_ne (fun h9 => hkn (lc_inj (rel6 hc hk) hn (by rw [h9, e])))]
    exact h k hk
theorem R0.upx {c m v : Int} {σ τ : ev_M} (h : R0 c σ τ) (hc : c ≤ 6) (hm : xo m) : R0 c (ev_up σ m v) τ := by
  intro k hk
  rw [ev_up_ne (fun h9 => (lc_p (rel6 hc hk)).2 (by rw [h9]; exact hm))]
  exact h k hk
theorem R0.upm {c n v : Int} {σ τ : ev_M} (h : R0 c σ τ) (hc : c ≤ 6) (hn : ¬ rel 6 n) : R0 c σ (ev_up τ n v) := by
  intro k hk
  rw [ev_up_ne (fun h9 => hn (by rw [← h9]; exact rel6 hc hk))]
  exact h k hk
theorem six {d : Int} (h0 : 0 ≤ d) (h1 : d < 6) : d = 0 ∨ d = 1 ∨ d = 2 ∨ d = 3 ∨ d = 4 ∨ d = 5 := by omega
theorem lc_out {n d j m : Int} (h0 : 0 ≤ d) (h1 : d < 6) (j0 : 0 ≤ j) (j1 : j < 12) (hn : n = 420 + 24 * d + j) (hm : m = 1000 + 100 * d + 30 + j) : rel 6 n ∧ lc n = m := by
  refine ⟨by unfold rel; omega, ?_⟩
  unfold lc
  rw [if_neg (by omega), if_neg (by omega), if_neg (by omega), if_neg (by omega), if_neg (by omega), if_neg (by omega), if_neg (by omega), if_neg (by omega), if_neg (by omega), if_neg (by omega), if_pos (by omega)]
  omega
theorem lc_inn {n d j m : Int} (h0 : 0 ≤ d) (h1 : d < 6) (j0 : 0 ≤ j) (j1 : j < 12) (hn : n = 420 + 24 * d + 12 + j) (hm : m = 1000 + 100 * d + 60 + j) : rel 6 n ∧ lc n = m := by
  refine ⟨by unfold rel; omega, ?_⟩
  unfold lc
  rw [if_neg (by omega), if_neg (by omega), if_neg (by omega), if_neg (by omega), if_neg (by omega), if_neg (by omega), if_neg (by omega), if_neg (by omega), if_neg (by omega), if_neg (by omega), if_neg (by omega)]
  omega
theorem lc_ltr {i : Int} (h0 : 0 ≤ i) (h1 : i < 200) : rel 6 (100 + i) ∧ lc (100 + i) = 200 + i := by
  refine ⟨by unfold rel; omega, ?_⟩
  unfold lc
  rw [if_neg (by omega), if_neg (by omega), if_neg (by omega), if_neg (by omega), if_neg (by omega), if_neg (by omega), if_neg (by omega), if_pos (by omega)]
  omega
theorem lc_sum {k : Int} (h0 : 0 ≤ k) (h1 : k < 8) : rel 6 (570 + k) ∧ lc (570 + k) = 40 + k := by
  refine ⟨by unfold rel; omega, ?_⟩
  unfold lc
  rw [if_neg (by omega), if_neg (by omega), if_neg (by omega), if_neg (by omega), if_neg (by omega), if_neg (by omega), if_neg (by omega), if_neg (by omega), if_pos (by omega)]
  omega
theorem lc_0 {d : Int} (h0 : 0 ≤ d) (h1 : d < 6) : rel 6 (300 + (18 * d + 0)) ∧ lc (300 + (18 * d + 0)) = (1000 + 100 * d + 2) := by
  rcases six h0 h1 with rfl | rfl | rfl | rfl | rfl | rfl <;> decide
theorem relc_0 {c d : Int} (h0 : 0 ≤ d) (h1 : d < c) : rel c (300 + (18 * d + 0)) := by unfold rel; omega
theorem lc_1 {d : Int} (h0 : 0 ≤ d) (h1 : d < 6) : rel 6 (300 + (18 * d + 1)) ∧ lc (300 + (18 * d + 1)) = (1000 + 100 * d + 3) := by
  rcases six h0 h1 with rfl | rfl | rfl | rfl | rfl | rfl <;> decide
theorem relc_1 {c d : Int} (h0 : 0 ≤ d) (h1 : d < c) : rel c (300 + (18 * d + 1)) := by unfold rel; omega
theorem lc_2 {d : Int} (h0 : 0 ≤ d) (h1 : d < 6) : rel 6 (300 + (18 * d + 2)) ∧ lc (300 + (18 * d + 2)) = (1000 + 100 * d + 4) := by
  rcases six h0 h1 with rfl | rfl | rfl | rfl | rfl | rfl <;> decide
theorem relc_2 {c d : Int} (h0 : 0 ≤ d) (h1 : d < c) : rel c (300 + (18 * d + 2)) := by unfold rel; omega
theorem lc_3 {d : Int} (h0 : 0 ≤ d) (h1 : d < 6) : rel 6 (300 + (18 * d + 3)) ∧ lc (300 + (18 * d + 3)) = (1000 + 100 * d + 5) := by
  rcases six h0 h1 with rfl | rfl | rfl | rfl | rfl | rfl <;> decide
theorem relc_3 {c d : Int} (h0 : 0 ≤ d) (h1 : d < c) : rel c (300 + (18 * d + 3)) := by unfold rel; omega
theorem lc_4 {d : Int} (h0 : 0 ≤ d) (h1 : d < 6) : rel 6 (300 + (18 * d + 4)) ∧ lc (300 + (18 * d + 4)) = (1000 + 100 * d + 6) := by
  rcases six h0 h1 with rfl | rfl | rfl | rfl | rfl | rfl <;> decide
theorem relc_4 {c d : Int} (h0 : 0 ≤ d) (h1 : d < c) : rel c (300 + (18 * d + 4)) := by unfold rel; omega
theorem lc_6 {d : Int} (h0 : 0 ≤ d) (h1 : d < 6) : rel 6 (300 + (18 * d + 6)) ∧ lc (300 + (18 * d + 6)) = (1000 + 100 * d + 9) := by
  rcases six h0 h1 with rfl | rfl | rfl | rfl | rfl | rfl <;> decide
theorem relc_6 {c d : Int} (h0 : 0 ≤ d) (h1 : d < c) : rel c (300 + (18 * d + 6)) := by unfold rel; omega
theorem lc_7 {d : Int} (h0 : 0 ≤ d) (h1 : d < 6) : rel 6 (300 + (18 * d + 7)) ∧ lc (300 + (18 * d + 7)) = (1000 + 100 * d + 10) := by
  rcases six h0 h1 with rfl | rfl | rfl | rfl | rfl | rfl <;> decide
theorem relc_7 {c d : Int} (h0 : 0 ≤ d) (h1 : d < c) : rel c (300 + (18 * d + 7)) := by unfold rel; omega
theorem lc_8 {d : Int} (h0 : 0 ≤ d) (h1 : d < 6) : rel 6 (300 + (18 * d + 8)) ∧ lc (300 + (18 * d + 8)) = (1000 + 100 * d + 11) := by
  rcases six h0 h1 with rfl | rfl | rfl | rfl | rfl | rfl <;> decide
theorem relc_8 {c d : Int} (h0 : 0 ≤ d) (h1 : d < c) : rel c (300 + (18 * d + 8)) := by unfold rel; omega
theorem lc_9 {d : Int} (h0 : 0 ≤ d) (h1 : d < 6) : rel 6 (300 + (18 * d + 9)) ∧ lc (300 + (18 * d + 9)) = (1000 + 100 * d + 7) := by
  rcases six h0 h1 with rfl | rfl | rfl | rfl | rfl | rfl <;> decide
theorem relc_9 {c d : Int} (h0 : 0 ≤ d) (h1 : d < c) : rel c (300 + (18 * d + 9)) := by unfold rel; omega
theorem lc_10 {d : Int} (h0 : 0 ≤ d) (h1 : d < 6) : rel 6 (300 + (18 * d + 10)) ∧ lc (300 + (18 * d + 10)) = (1000 + 100 * d + 8) := by
  rcases six h0 h1 with rfl | rfl | rfl | rfl | rfl | rfl <;> decide
theorem relc_10 {c d : Int} (h0 : 0 ≤ d) (h1 : d < c) : rel c (300 + (18 * d + 10)) := by unfold rel; omega
theorem lc_11 {d : Int} (h0 : 0 ≤ d) (h1 : d < 6) : rel 6 (300 + (18 * d + 11)) ∧ lc (300 + (18 * d + 11)) = (1000 + 100 * d + 14) := by
  rcases six h0 h1 with rfl | rfl | rfl | rfl | rfl | rfl <;> decide
theorem relc_11 {c d : Int} (h0 : 0 ≤ d) (h1 : d < c) : rel c (300 + (18 * d + 11)) := by unfold rel; omega
theorem lc_13 {d : Int} (h0 : 0 ≤ d) (h1 : d < 6) : rel 6 (300 + (18 * d + 13)) ∧ lc (300 + (18 * d + 13)) = (1000 + 100 * d + 16) := by
  rcases six h0 h1 with rfl | rfl | rfl | rfl | rfl | rfl <;> decide
theorem relc_13 {c d : Int} (h0 : 0 ≤ d) (h1 : d < c) : rel c (300 + (18 * d + 13)) := by unfold rel; omega
theorem lc_14 {d : Int} (h0 : 0 ≤ d) (h1 : d < 6) : rel 6 (300 + (18 * d + 14)) ∧ lc (300 + (18 * d + 14)) = (1000 + 100 * d + 17) := by
  rcases six h0 h1 with rfl | rfl | rfl | rfl | rfl | rfl <;> decide
theorem relc_14 {c d : Int} (h0 : 0 ≤ d) (h1 : d < c) : rel c (300 + (18 * d + 14)) := by unfold rel; omega
theorem lc_15 {d : Int} (h0 : 0 ≤ d) (h1 : d < 6) : rel 6 (300 + (18 * d + 15)) ∧ lc (300 + (18 * d + 15)) = (1000 + 100 * d + 20 + 1) := by
  rcases six h0 h1 with rfl | rfl | rfl | rfl | rfl | rfl <;> decide
theorem relc_15 {c d : Int} (h0 : 0 ≤ d) (h1 : d < c) : rel c (300 + (18 * d + 15)) := by unfold rel; omega
theorem lc_16 {d : Int} (h0 : 0 ≤ d) (h1 : d < 6) : rel 6 (300 + (18 * d + 16)) ∧ lc (300 + (18 * d + 16)) = (1000 + 100 * d + 50 + 1) := by
  rcases six h0 h1 with rfl | rfl | rfl | rfl | rfl | rfl <;> decide
theorem relc_16 {c d : Int} (h0 : 0 ≤ d) (h1 : d < c) : rel c (300 + (18 * d + 16)) := by unfold rel; omega
def Sn (c : Int) (σ τ : ev_M) : Prop := ∀ d, 0 ≤ d → d < c → (σ (1000 + 100 * d + 14) = -4 ∨ 0 ≤ σ (1000 + 100 * d + 14)) ∧ (0 ≤ σ (1000 + 100 * d + 14) → τ (300 + (18 * d + 12)) = σ (1000 + 100 * d + 15))
def Tk (c : Int) (σ τ : ev_M) : Prop := (σ 7 = -4 ∨ (0 ≤ σ 7 ∧ σ 7 < c)) ∧ ∀ d, 0 ≤ d → d < c → τ (300 + (18 * d + 5)) = if d = σ 7 then 1 else 0
def Du (c : Int) (σ : ev_M) : Prop := 0 ≤ σ 5 ∧ ∀ d, 0 ≤ d → d < c → σ (1000 + 100 * d + 17) = -4 ∨ σ 5 < σ (1000 + 100 * d + 17)
def Cf (c : Int) (σ : ev_M) : Prop := (∀ d e, 0 ≤ d → d < c → 0 ≤ e → e < c → d ≠ e → σ (1000 + 100 * d + 3) = σ (1000 + 100 * e + 3) → σ (1000 + 100 * d + 4) ≠ 31) ∧ ∀ d, 0 ≤ d → d < c → 1 ≤ σ (1000 + 100 * d + 5) ∧ σ (1000 + 100 * d + 4) ≤ 31
def LG (σ τ : ev_M) : Prop := 0 ≤ σ 34 ∧ σ 34 ≤ 15 ∧ 0 ≤ σ 33 ∧ σ 33 ≤ 16 ∧ ∀ i, 0 ≤ i → i < σ 33 → τ (580 + i) = σ (100 + (σ 34 + 16 - 1 - i) % 16) ∧ τ (600 + i) = σ (120 + (σ 34 + 16 - 1 - i) % 16) ∧ τ (620 + i) = σ (140 + (σ 34 + 16 - 1 - i) % 16)
def Nm (c : Int) (σ τ : ev_M) : Prop := ∀ d, 0 ≤ d → d < c → τ (300 + (18 * d + 17)) = σ (1000 + 100 * d + 13)
def Pr (c : Int) (σ τ : ev_M) : Prop := ∀ d, 0 ≤ d → d < c → σ (1000 + 100 * d + 12) = ev_and (ev_shr (τ 9) d) 1
def Bn (c : Int) (σ τ : ev_M) : Prop := (1 ≤ c ∧ c ≤ 6 ∧ τ 2 = c) ∧ R0 c σ τ ∧ Sn c σ τ ∧ Tk c σ τ ∧ Cf c σ ∧ LG σ τ ∧ 0 ≤ σ 6 ∧ σ 6 < c
theorem Sn.fr {c : Int} {σ τ σ' τ' : ev_M} (h : Sn c σ τ) (e1 : ∀ d, 0 ≤ d → d < c → σ' (1000 + 100 * d + 14) = σ (1000 + 100 * d + 14)) (e2 : ∀ d, 0 ≤ d → d < c → σ' (1000 + 100 * d + 15) = σ (1000 + 100 * d + 15)) (e3 : ∀ d, 0 ≤ d → d < c → τ' (300 + (18 * d + 12)) = τ (300 + (18 * d + 12))) : Sn c σ' τ' := by
  intro d h0 h1
  rw [e1 d h0 h1, e2 d h0 h1, e3 d h0 h1]
  exact h d h0 h1
theorem Tk.fr {c : Int} {σ τ σ' τ' : ev_M} (h : Tk c σ τ) (e1 : σ' 7 = σ 7) (e2 : ∀ d, 0 ≤ d → d < c → τ' (300 + (18 * d + 5)) = τ (300 + (18 * d + 5))) : Tk c σ' τ' := by
  refine ⟨by rw [e1]; exact h.1, fun d h0 h1 => ?_⟩
  rw [e1, e2 d h0 h1]
  exact h.2 d h0 h1
theorem Du.fr {c : Int} {σ σ' : ev_M} (h : Du c σ) (e1 : σ' 5 = σ 5) (e2 : ∀ d, 0 ≤ d → d < c → σ' (1000 + 100 * d + 17) = σ (1000 + 100 * d + 17)) : Du c σ' := by
  refine ⟨by rw [e1]; exact h.1, fun d h0 h1 => ?_⟩
  rw [e1, e2 d h0 h1]
  exact h.2 d h0 h1
theorem Cf.fr {c : Int} {σ σ' : ev_M} (h : Cf c σ) (e1 : ∀ d, 0 ≤ d → d < c → σ' (1000 + 100 * d + 3) = σ (1000 + 100 * d + 3)) (e2 : ∀ d, 0 ≤ d → d < c → σ' (1000 + 100 * d + 4) = σ (1000 + 100 * d + 4)) (e3 : ∀ d, 0 ≤ d → d < c → σ' (1000 + 100 * d + 5) = σ (1000 + 100 * d + 5)) : Cf c σ' := by
  refine ⟨fun d e h0 h1 g0 g1 hde => ?_, fun d h0 h1 => ?_⟩
  · rw [e1 d h0 h1, e1 e g0 g1, e2 d h0 h1]
    exact h.1 d e h0 h1 g0 g1 hde
  · rw [e2 d h0 h1, e3 d h0 h1]
    exact h.2 d h0 h1
theorem LG.fr {σ τ σ' τ' : ev_M} (h : LG σ τ) (e1 : ∀ n, (n = 33 ∨ n = 34 ∨ (100 ≤ n ∧ n < 156)) → σ' n = σ n) (e2 : ∀ n, 580 ≤ n → n < 636 → τ' n = τ n) : LG σ' τ' := by
  obtain ⟨h1, h2, h3, h4, h5⟩ := h
  rw [LG, e1 34 (by omega), e1 33 (by omega)]
  refine ⟨h1, h2, h3, h4, fun i i0 i1 => ?_⟩
  rw [e1 (100 + (σ 34 + 16 - 1 - i) % 16) (by omega), e1 (120 + (σ 34 + 16 - 1 - i) % 16) (by omega), e1 (140 + (σ 34 + 16 - 1 - i) % 16) (by omega), e2 (580 + i) (by omega) (by omega), e2 (600 + i) (by omega) (by omega), e2 (620 + i) (by omega) (by omega)]
  exact h5 i i0 i1
theorem Nm.fr {c : Int} {σ τ σ' τ' : ev_M} (h : Nm c σ τ) (e1 : ∀ d, 0 ≤ d → d < c → σ' (1000 + 100 * d + 13) = σ (1000 + 100 * d + 13)) (e2 : ∀ d, 0 ≤ d → d < c → τ' (300 + (18 * d + 17)) = τ (300 + (18 * d + 17))) : Nm c σ' τ' := by
  intro d h0 h1
  rw [e1 d h0 h1, e2 d h0 h1]
  exact h d h0 h1
theorem Pr.fr {c : Int} {σ τ σ' τ' : ev_M} (h : Pr c σ τ) (e1 : ∀ d, 0 ≤ d → d < c → σ' (1000 + 100 * d + 12) = σ (1000 + 100 * d + 12)) (e2 : τ' 9 = τ 9) : Pr c σ' τ' := by
  intro d h0 h1
  rw [e1 d h0 h1, e2]
  exact h d h0 h1
/-- places of the model whose change, with the class's, touches nothing else that is said -/
abbrev okn (n : Int) : Prop := rel 6 n ∧ n ≠ 2 ∧ n ≠ 5 ∧ n ≠ 11 ∧ ¬ (300 ≤ n ∧ n < 408 ∧ ((n - 300) % 18 = 1 ∨ (n - 300) % 18 = 2 ∨ (n - 300) % 18 = 3 ∨ (n - 300) % 18 = 11))
/-- x's places of which the rest speaks -/
abbrev xs (m : Int) : Prop := m = 6 ∨ m = 7 ∨ m = 33 ∨ m = 34 ∨ (100 ≤ m ∧ m < 156) ∨ (1000 ≤ m ∧ m < 1600 ∧ ((m - 1000) % 100 = 3 ∨ (m - 1000) % 100 = 4 ∨ (m - 1000) % 100 = 5 ∨ (m - 1000) % 100 = 14 ∨ (m - 1000) % 100 = 15 ∨ (m - 1000) % 100 = 12 ∨ (m - 1000) % 100 = 13))
theorem okn_all : ∀ n : Fin 578, okn ((n : Nat) : Int) → ¬ xs (lc ((n : Nat) : Int)) := by decide +kernel
theorem okn_p {n : Int} (h : okn n) : ¬ xs (lc n) := by
  obtain ⟨h0, h1⟩ := rel_rng h.1
  have := okn_all ⟨n.toNat, by omega⟩
  have e : ((n.toNat : Nat) : Int) = n := by omega
  simp only [e] at this
  exact this h
theorem Bn.up {c n m v : Int} {σ τ : ev_M} (h : Bn c σ τ) (hn : okn n) (e : lc n = m) : Bn c (ev_up σ m v) (ev_up τ n v) := by
  obtain ⟨⟨a1, a2, a3⟩, b, s, t, f, g, i1, i2⟩ := h
  have hx : ¬ xs m := by rw [← e]; exact okn_p hn
  have hxs : ∀ k, xs k → ev_up σ m v k = σ k := fun k hk => ev_up_ne (fun h9 => hx (by rw [← h9]; exact hk))
  have hr := hn
  unfold okn rel at hr
  refine ⟨⟨a1, a2, by rw [ev_up_ne (by omega)]; exact a3⟩, b.up a2 hn.1 e, s.fr (fun d h0 h1 => hxs _ (by unfold xs; omega)) (fun d h0 h1 => hxs _ (by unfold xs; omega)) (fun d h0 h1 => ev_up_ne (by omega)), t.fr (hxs _ (by unfold xs; omega)) (fun d h0 h1 => ev_up_ne (by omega)), f.fr (fun d h0 h1 => hxs _ (by unfold xs; omega)) (fun d h0 h1 => hxs _ (by unfold xs; omega)) (fun d h0 h1 => hxs _ (by unfold xs; omega)), g.fr (fun k hk => hxs _ (by unfold xs; omega)) (fun k h0 h1 => ev_up_ne (by omega)), ?_⟩
  rw [hxs 6 (by unfold xs; omega)]
  exact ⟨i1, i2⟩
theorem Bn.upx {c m v : Int} {σ τ : ev_M} (h : Bn c σ τ) (hm : m = 23 ∨ (60 ≤ m ∧ m < 90) ∨ (1000 ≤ m ∧ m < 1600 ∧ ((m - 1000) % 100 = 12 ∨ (m - 1000) % 100 = 13))) : Bn c (ev_up σ m v) τ := by
  obtain ⟨⟨a1, a2, a3⟩, b, s, t, f, g, i1, i2⟩ := h
  refine ⟨⟨a1, a2, a3⟩, b.upx a2 (by unfold xo; omega), s.fr (fun d h0 h1 => ev_up_ne (by omega)) (fun d h0 h1 => ev_up_ne (by omega)) (fun d h0 h1 => rfl), t.fr (ev_up_ne (by omega)) (fun d h0 h1 => rfl), f.fr (fun d h0 h1 => ev_up_ne (by omega)) (fun d h0 h1 => ev_up_ne (by omega)) (fun d h0 h1 => ev_up_ne (by omega)), g.fr (fun k hk => ev_up_ne (by omega)) (fun k h0 h1 => rfl), ?_⟩
  rw [ev_up_ne (by omega)]
  exact ⟨i1, i2⟩
theorem Bn.upm {c n v : Int} {σ τ : ev_M} (h : Bn c σ τ) (hn : n = 9 ∨ n = 15 ∨ n = 17 ∨ n = 18 ∨ (640 ≤ n) ∨ (300 ≤ n ∧ n < 408 ∧ (n - 300) % 18 = 17)) : Bn c σ (ev_up τ n v) := by
  obtain ⟨⟨a1, a2, a3⟩, b, s, t, f, g, i1, i2⟩ := h
  exact ⟨⟨a1, a2, by rw [ev_up_ne (by omega)]; exact a3⟩, b.upm a2 (by unfold rel; omega), s.fr (fun d h0 h1 => rfl) (fun d h0 h1 => rfl) (fun d h0 h1 => ev_up_ne (by omega)), t.fr rfl (fun d h0 h1 => ev_up_ne (by omega)), f, g.fr (fun k hk => rfl) (fun k h0 h1 => ev_up_ne (by omega)), i1, i2⟩
theorem okn_w {d w : Int} (h : rel 6 (300 + (18 * d + w))) (h0 : 0 ≤ d) (h1 : d < 6) (w0 : 0 ≤ w) (w1 : w < 18) (hw : w ≠ 1 ∧ w ≠ 2 ∧ w ≠ 3 ∧ w ≠ 11) : okn (300 + (18 * d + w)) := ⟨h, by omega, by omega, by omega, by omega⟩
theorem Bn.r0 {c d : Int} {σ τ : ev_M} (h : Bn c σ τ) (h0 : 0 ≤ d) (h1 : d < c) : τ (300 + (18 * d + 0)) = σ (1000 + 100 * d + 2) := by
  have := h.2.1 _ (relc_0 h0 h1)
  rwa [(lc_0 h0 (by have := h.1.2.1; omega)).2] at this
theorem Bn.u0 {c d v : Int} {σ τ : ev_M} (h : Bn c σ τ) (h0 : 0 ≤ d) (h1 : d < 6) : Bn c (ev_up σ (1000 + 100 * d + 2) v) (ev_up τ (300 + (18 * d + 0)) v) := h.up (okn_w (lc_0 h0 h1).1 h0 h1 (by decide) (by decide) (by decide)) (lc_0 h0 h1).2
theorem Bn.r1 {c d : Int} {σ τ : ev_M} (h : Bn c σ τ) (h0 : 0 ≤ d) (h1 : d < c) : τ (300 + (18 * d + 1)) = σ (1000 + 100 * d + 3) := by
  have := h.2.1 _ (relc_1 h0 h1)
  rwa [(lc_1 h0 (by have := h.1.2.1; omega)).2] at this
theorem Bn.r2 {c d : Int} {σ τ : ev_M} (h : Bn c σ τ) (h0 : 0 ≤ d) (h1 : d < c) : τ (300 + (18 * d + 2)) = σ (1000 + 100 * d + 4) := by
  have := h.2.1 _ (relc_2 h0 h1)
  rwa [(lc_2 h0 (by have := h.1.2.1; omega)).2] at this
theorem Bn.r3 {c d : Int} {σ τ : ev_M} (h : Bn c σ τ) (h0 : 0 ≤ d) (h1 : d < c) : τ (300 + (18 * d + 3)) = σ (1000 + 100 * d + 5) := by
  have := h.2.1 _ (relc_3 h0 h1)
  rwa [(lc_3 h0 (by have := h.1.2.1; omega)).2] at this
theorem Bn.r4 {c d : Int} {σ τ : ev_M} (h : Bn c σ τ) (h0 : 0 ≤ d) (h1 : d < c) : τ (300 + (18 * d + 4)) = σ (1000 + 100 * d + 6) := by
  have := h.2.1 _ (relc_4 h0 h1)
  rwa [(lc_4 h0 (by have := h.1.2.1; omega)).2] at this
theorem Bn.u4 {c d v : Int} {σ τ : ev_M} (h : Bn c σ τ) (h0 : 0 ≤ d) (h1 : d < 6) : Bn c (ev_up σ (1000 + 100 * d + 6) v) (ev_up τ (300 + (18 * d + 4)) v) := h.up (okn_w (lc_4 h0 h1).1 h0 h1 (by decide) (by decide) (by decide)) (lc_4 h0 h1).2
theorem Bn.r6 {c d : Int} {σ τ : ev_M} (h : Bn c σ τ) (h0 : 0 ≤ d) (h1 : d < c) : τ (300 + (18 * d + 6)) = σ (1000 + 100 * d + 9) := by
  have := h.2.1 _ (relc_6 h0 h1)
  rwa [(lc_6 h0 (by have := h.1.2.1; omega)).2] at this
theorem Bn.u6 {c d v : Int} {σ τ : ev_M} (h : Bn c σ τ) (h0 : 0 ≤ d) (h1 : d < 6) : Bn c (ev_up σ (1000 + 100 * d + 9) v) (ev_up τ (300 + (18 * d + 6)) v) := h.up (okn_w (lc_6 h0 h1).1 h0 h1 (by decide) (by decide) (by decide)) (lc_6 h0 h1).2
theorem Bn.r7 {c d : Int} {σ τ : ev_M} (h : Bn c σ τ) (h0 : 0 ≤ d) (h1 : d < c) : τ (300 + (18 * d + 7)) = σ (1000 + 100 * d + 10) := by
  have := h.2.1 _ (relc_7 h0 h1)
  rwa [(lc_7 h0 (by have := h.1.2.1; omega)).2] at this
theorem Bn.u7 {c d v : Int} {σ τ : ev_M} (h : Bn c σ τ) (h0 : 0 ≤ d) (h1 : d < 6) : Bn c (ev_up σ (1000 + 100 * d + 10) v) (ev_up τ (300 + (18 * d + 7)) v) := h.up (okn_w (lc_7 h0 h1).1 h0 h1 (by decide) (by decide) (by decide)) (lc_7 h0 h1).2
theorem Bn.r8 {c d : Int} {σ τ : ev_M} (h : Bn c σ τ) (h0 : 0 ≤ d) (h1 : d < c) : τ (300 + (18 * d + 8)) = σ (1000 + 100 * d + 11) := by
  have := h.2.1 _ (relc_8 h0 h1)
  rwa [(lc_8 h0 (by have := h.1.2.1; omega)).2] at this
theorem Bn.u8 {c d v : Int} {σ τ : ev_M} (h : Bn c σ τ) (h0 : 0 ≤ d) (h1 : d < 6) : Bn c (ev_up σ (1000 + 100 * d + 11) v) (ev_up τ (300 + (18 * d + 8)) v) := h.up (okn_w (lc_8 h0 h1).1 h0 h1 (by decide) (by decide) (by decide)) (lc_8 h0 h1).2
theorem Bn.r9 {c d : Int} {σ τ : ev_M} (h : Bn c σ τ) (h0 : 0 ≤ d) (h1 : d < c) : τ (300 + (18 * d + 9)) = σ (1000 + 100 * d + 7) := by
  have := h.2.1 _ (relc_9 h0 h1)
  rwa [(lc_9 h0 (by have := h.1.2.1; omega)).2] at this
theorem Bn.u9 {c d v : Int} {σ τ : ev_M} (h : Bn c σ τ) (h0 : 0 ≤ d) (h1 : d < 6) : Bn c (ev_up σ (1000 + 100 * d + 7) v) (ev_up τ (300 + (18 * d + 9)) v) := h.up (okn_w (lc_9 h0 h1).1 h0 h1 (by decide) (by decide) (by decide)) (lc_9 h0 h1).2
theorem Bn.r10 {c d : Int} {σ τ : ev_M} (h : Bn c σ τ) (h0 : 0 ≤ d) (h1 : d < c) : τ (300 + (18 * d + 10)) = σ (1000 + 100 * d + 8) := by
  have := h.2.1 _ (relc_10 h0 h1)
  rwa [(lc_10 h0 (by have := h.1.2.1; omega)).2] at this
theorem Bn.u10 {c d v : Int} {σ τ : ev_M} (h : Bn c σ τ) (h0 : 0 ≤ d) (h1 : d < 6) : Bn c (ev_up σ (1000 + 100 * d + 8) v) (ev_up τ (300 + (18 * d + 10)) v) := h.up (okn_w (lc_10 h0 h1).1 h0 h1 (by decide) (by decide) (by decide)) (lc_10 h0 h1).2
theorem Bn.r11 {c d : Int} {σ τ : ev_M} (h : Bn c σ τ) (h0 : 0 ≤ d) (h1 : d < c) : τ (300 + (18 * d + 11)) = σ (1000 + 100 * d + 14) := by
  have := h.2.1 _ (relc_11 h0 h1)
  rwa [(lc_11 h0 (by have := h.1.2.1; omega)).2] at this
theorem Bn.r13 {c d : Int} {σ τ : ev_M} (h : Bn c σ τ) (h0 : 0 ≤ d) (h1 : d < c) : τ (300 + (18 * d + 13)) = σ (1000 + 100 * d + 16) := by
  have := h.2.1 _ (relc_13 h0 h1)
  rwa [(lc_13 h0 (by have := h.1.2.1; omega)).2] at this
theorem Bn.u13 {c d v : Int} {σ τ : ev_M} (h : Bn c σ τ) (h0 : 0 ≤ d) (h1 : d < 6) : Bn c (ev_up σ (1000 + 100 * d + 16) v) (ev_up τ (300 + (18 * d + 13)) v) := h.up (okn_w (lc_13 h0 h1).1 h0 h1 (by decide) (by decide) (by decide)) (lc_13 h0 h1).2
theorem Bn.r14 {c d : Int} {σ τ : ev_M} (h : Bn c σ τ) (h0 : 0 ≤ d) (h1 : d < c) : τ (300 + (18 * d + 14)) = σ (1000 + 100 * d + 17) := by
  have := h.2.1 _ (relc_14 h0 h1)
  rwa [(lc_14 h0 (by have := h.1.2.1; omega)).2] at this
theorem Bn.u14 {c d v : Int} {σ τ : ev_M} (h : Bn c σ τ) (h0 : 0 ≤ d) (h1 : d < 6) : Bn c (ev_up σ (1000 + 100 * d + 17) v) (ev_up τ (300 + (18 * d + 14)) v) := h.up (okn_w (lc_14 h0 h1).1 h0 h1 (by decide) (by decide) (by decide)) (lc_14 h0 h1).2
theorem Bn.r15 {c d : Int} {σ τ : ev_M} (h : Bn c σ τ) (h0 : 0 ≤ d) (h1 : d < c) : τ (300 + (18 * d + 15)) = σ (1000 + 100 * d + 20 + 1) := by
  have := h.2.1 _ (relc_15 h0 h1)
  rwa [(lc_15 h0 (by have := h.1.2.1; omega)).2] at this
theorem Bn.u15 {c d v : Int} {σ τ : ev_M} (h : Bn c σ τ) (h0 : 0 ≤ d) (h1 : d < 6) : Bn c (ev_up σ (1000 + 100 * d + 20 + 1) v) (ev_up τ (300 + (18 * d + 15)) v) := h.up (okn_w (lc_15 h0 h1).1 h0 h1 (by decide) (by decide) (by decide)) (lc_15 h0 h1).2
theorem Bn.r16 {c d : Int} {σ τ : ev_M} (h : Bn c σ τ) (h0 : 0 ≤ d) (h1 : d < c) : τ (300 + (18 * d + 16)) = σ (1000 + 100 * d + 50 + 1) := by
  have := h.2.1 _ (relc_16 h0 h1)
  rwa [(lc_16 h0 (by have := h.1.2.1; omega)).2] at this
theorem Bn.u16 {c d v : Int} {σ τ : ev_M} (h : Bn c σ τ) (h0 : 0 ≤ d) (h1 : d < 6) : Bn c (ev_up σ (1000 + 100 * d + 50 + 1) v) (ev_up τ (300 + (18 * d + 16)) v) := h.up (okn_w (lc_16 h0 h1).1 h0 h1 (by decide) (by decide) (by decide)) (lc_16 h0 h1).2
theorem Bn.c {c : Int} {σ τ : ev_M} (h : Bn c σ τ) : τ 2 = σ 4 := h.2.1 2 (by unfold rel; omega)
theorem Bn.now {c : Int} {σ τ : ev_M} (h : Bn c σ τ) : τ 7 = σ 5 := h.2.1 7 (by unfold rel; omega)
theorem Bn.unow {c v : Int} {σ τ : ev_M} (h : Bn c σ τ) : Bn c (ev_up σ 5 v) (ev_up τ 7 v) := h.up (by decide) (by decide)
theorem Bn.chg {c : Int} {σ τ : ev_M} (h : Bn c σ τ) : τ 5 = σ 6 := h.2.1 5 (by unfold rel; omega)
theorem Bn.pol {c : Int} {σ τ : ev_M} (h : Bn c σ τ) : τ 6 = σ 9 := h.2.1 6 (by unfold rel; omega)
theorem Bn.upol {c v : Int} {σ τ : ev_M} (h : Bn c σ τ) : Bn c (ev_up σ 9 v) (ev_up τ 6 v) := h.up (by decide) (by decide)
theorem Bn.lat {c : Int} {σ τ : ev_M} (h : Bn c σ τ) : τ 8 = σ 8 := h.2.1 8 (by unfold rel; omega)
theorem Bn.ulat {c v : Int} {σ τ : ev_M} (h : Bn c σ τ) : Bn c (ev_up σ 8 v) (ev_up τ 8 v) := h.up (by decide) (by decide)
theorem Bn.len {c : Int} {σ τ : ev_M} (h : Bn c σ τ) : τ 0 = σ 22 := h.2.1 0 (by unfold rel; omega)
theorem Bn.ulen {c v : Int} {σ τ : ev_M} (h : Bn c σ τ) : Bn c (ev_up σ 22 v) (ev_up τ 0 v) := h.up (by decide) (by decide)
theorem Bn.lgd {c : Int} {σ τ : ev_M} (h : Bn c σ τ) : τ 11 = σ 33 := h.2.1 11 (by unfold rel; omega)
theorem Bn.s0 {c : Int} {σ τ : ev_M} (h : Bn c σ τ) : τ 570 = σ 40 := h.2.1 570 (by unfold rel; omega)
theorem Bn.us0 {c v : Int} {σ τ : ev_M} (h : Bn c σ τ) : Bn c (ev_up σ 40 v) (ev_up τ 570 v) := h.up (by decide) (by decide)
theorem Bn.s1 {c : Int} {σ τ : ev_M} (h : Bn c σ τ) : τ 571 = σ 41 := h.2.1 571 (by unfold rel; omega)
theorem Bn.us1 {c v : Int} {σ τ : ev_M} (h : Bn c σ τ) : Bn c (ev_up σ 41 v) (ev_up τ 571 v) := h.up (by decide) (by decide)
theorem Bn.s2 {c : Int} {σ τ : ev_M} (h : Bn c σ τ) : τ 572 = σ 42 := h.2.1 572 (by unfold rel; omega)
theorem Bn.us2 {c v : Int} {σ τ : ev_M} (h : Bn c σ τ) : Bn c (ev_up σ 42 v) (ev_up τ 572 v) := h.up (by decide) (by decide)
theorem Bn.s3 {c : Int} {σ τ : ev_M} (h : Bn c σ τ) : τ 573 = σ 43 := h.2.1 573 (by unfold rel; omega)
theorem Bn.us3 {c v : Int} {σ τ : ev_M} (h : Bn c σ τ) : Bn c (ev_up σ 43 v) (ev_up τ 573 v) := h.up (by decide) (by decide)
theorem Bn.s4 {c : Int} {σ τ : ev_M} (h : Bn c σ τ) : τ 574 = σ 44 := h.2.1 574 (by unfold rel; omega)
theorem Bn.us4 {c v : Int} {σ τ : ev_M} (h : Bn c σ τ) : Bn c (ev_up σ 44 v) (ev_up τ 574 v) := h.up (by decide) (by decide)
theorem Bn.s5 {c : Int} {σ τ : ev_M} (h : Bn c σ τ) : τ 575 = σ 45 := h.2.1 575 (by unfold rel; omega)
theorem Bn.us5 {c v : Int} {σ τ : ev_M} (h : Bn c σ τ) : Bn c (ev_up σ 45 v) (ev_up τ 575 v) := h.up (by decide) (by decide)
theorem Bn.s6 {c : Int} {σ τ : ev_M} (h : Bn c σ τ) : τ 576 = σ 46 := h.2.1 576 (by unfold rel; omega)
theorem Bn.us6 {c v : Int} {σ τ : ev_M} (h : Bn c σ τ) : Bn c (ev_up σ 46 v) (ev_up τ 576 v) := h.up (by decide) (by decide)
theorem Bn.s7 {c : Int} {σ τ : ev_M} (h : Bn c σ τ) : τ 577 = σ 47 := h.2.1 577 (by unfold rel; omega)
theorem Bn.us7 {c v : Int} {σ τ : ev_M} (h : Bn c σ τ) : Bn c (ev_up σ 47 v) (ev_up τ 577 v) := h.up (by decide) (by decide)
theorem Bn.out {c n d j m : Int} {σ τ : ev_M} (h : Bn c σ τ) (h0 : 0 ≤ d) (h1 : d < 6) (j0 : 0 ≤ j) (j1 : j < 12) (hn : n = 420 + 24 * d + j) (hm : m = 1000 + 100 * d + 30 + j) : τ n = σ m := by
  have hl := lc_out h0 h1 j0 j1 hn hm
  rw [← hl.2]
  exact h.2.1 n (by unfold rel; omega)
theorem Bn.inn {c n d j m : Int} {σ τ : ev_M} (h : Bn c σ τ) (h0 : 0 ≤ d) (h1 : d < 6) (j0 : 0 ≤ j) (j1 : j < 12) (hn : n = 420 + 24 * d + 12 + j) (hm : m = 1000 + 100 * d + 60 + j) : τ n = σ m := by
  have hl := lc_inn h0 h1 j0 j1 hn hm
  rw [← hl.2]
  exact h.2.1 n (by unfold rel; omega)
theorem Bn.uout {c n d j m v : Int} {σ τ : ev_M} (h : Bn c σ τ) (h0 : 0 ≤ d) (h1 : d < 6) (j0 : 0 ≤ j) (j1 : j < 12) (hn : n = 420 + 24 * d + j) (hm : m = 1000 + 100 * d + 30 + j) : Bn c (ev_up σ m v) (ev_up τ n v) := by
  have hl := lc_out h0 h1 j0 j1 hn hm
  exact h.up ⟨hl.1, by omega, by omega, by omega, by omega⟩ hl.2
theorem Bn.uinn {c n d j m v : Int} {σ τ : ev_M} (h : Bn c σ τ) (h0 : 0 ≤ d) (h1 : d < 6) (j0 : 0 ≤ j) (j1 : j < 12) (hn : n = 420 + 24 * d + 12 + j) (hm : m = 1000 + 100 * d + 60 + j) : Bn c (ev_up σ m v) (ev_up τ n v) := by
  have hl := lc_inn h0 h1 j0 j1 hn hm
  exact h.up ⟨hl.1, by omega, by omega, by omega, by omega⟩ hl.2
theorem Bn.c4 {c : Int} {σ τ : ev_M} (h : Bn c σ τ) : σ 4 = c := by rw [← h.c]; exact h.1.2.2
theorem it2 {P : Nat → ev_M → ev_M → Prop} {f g : Int → ev_M → ev_M} {σ τ : ev_M} : ∀ (n : Nat), P 0 σ τ → (∀ (k : Nat) (σ' τ' : ev_M), k < n → P k σ' τ' → P (k + 1) (f (k : Int) σ') (g (k : Int) τ')) → P n (it f σ n) (it g τ n)
  | 0, h, _ => h
  | n + 1, h, hs => hs n _ _ (by omega) (it2 n h (fun k σ' τ' hk => hs k σ' τ' (by omega)))
theorem it1 {P : Nat → ev_M → Prop} {f : Int → ev_M → ev_M} {σ : ev_M} : ∀ (n : Nat), P 0 σ → (∀ (k : Nat) (σ' : ev_M), k < n → P k σ' → P (k + 1) (f (k : Int) σ')) → P n (it f σ n)
  | 0, h, _ => h
  | n + 1, h, hs => hs n _ (by omega) (it1 n h (fun k σ' hk => hs k σ' (by omega)))
