/-! at first: devices as told -/
theorem bg_o {i a k m : Int} {σ : ev_M} (h : ¬ dev i m) : x_begin i a k σ m = σ m := by
  unfold x_begin x_clear
  simp (disch := omega) only [ev_up_ne]
theorem bg_b {i a k j : Int} {σ : ev_M} (hj : (30 ≤ j ∧ j < 42) ∨ (60 ≤ j ∧ j < 72)) : x_begin i a k σ (1000 + 100 * i + j) = σ (1000 + 100 * i + j) := by
  unfold x_begin x_clear
  simp (disch := omega) only [ev_up_ne]
theorem bg_2 {i a k : Int} {σ : ev_M} : x_begin i a k σ (1000 + 100 * i + 2) = σ (a + (k + 0)) := by
  unfold x_begin x_clear
  simp (disch := omega) only [ev_up_ne, ev_up_eqs]
theorem bg_3 {i a k : Int} {σ : ev_M} : x_begin i a k σ (1000 + 100 * i + 3) = σ (a + (k + 1)) := by
  unfold x_begin x_clear
  simp (disch := omega) only [ev_up_ne, ev_up_eqs]
theorem bg_4 {i a k : Int} {σ : ev_M} : x_begin i a k σ (1000 + 100 * i + 4) = σ (a + (k + 2)) := by
  unfold x_begin x_clear
  simp (disch := omega) only [ev_up_ne, ev_up_eqs]
theorem bg_5 {i a k : Int} {σ : ev_M} : x_begin i a k σ (1000 + 100 * i + 5) = σ (a + (k + 3)) := by
  unfold x_begin x_clear
  simp (disch := omega) only [ev_up_ne, ev_up_eqs]
theorem bg_6 {i a k : Int} {σ : ev_M} : x_begin i a k σ (1000 + 100 * i + 6) = σ (a + (k + 4)) := by
  unfold x_begin x_clear
  simp (disch := omega) only [ev_up_ne, ev_up_eqs]
theorem bg_7 {i a k : Int} {σ : ev_M} : x_begin i a k σ (1000 + 100 * i + 7) = 0 := by
  unfold x_begin x_clear
  simp (disch := omega) only [ev_up_ne, ev_up_eqs]
theorem bg_8 {i a k : Int} {σ : ev_M} : x_begin i a k σ (1000 + 100 * i + 8) = 0 := by
  unfold x_begin x_clear
  simp (disch := omega) only [ev_up_ne, ev_up_eqs]
theorem bg_9 {i a k : Int} {σ : ev_M} : x_begin i a k σ (1000 + 100 * i + 9) = 0 := by
  unfold x_begin x_clear
  simp (disch := omega) only [ev_up_ne, ev_up_eqs]
theorem bg_10 {i a k : Int} {σ : ev_M} : x_begin i a k σ (1000 + 100 * i + 10) = 0 := by
  unfold x_begin x_clear
  simp (disch := omega) only [ev_up_ne, ev_up_eqs]
theorem bg_11 {i a k : Int} {σ : ev_M} : x_begin i a k σ (1000 + 100 * i + 11) = 0 := by
  unfold x_begin x_clear
  simp (disch := omega) only [ev_up_ne, ev_up_eqs]
theorem bg_12 {i a k : Int} {σ : ev_M} : x_begin i a k σ (1000 + 100 * i + 12) = 0 := by
  unfold x_begin x_clear
  simp (disch := omega) only [ev_up_ne, ev_up_eqs]
theorem bg_13 {i a k : Int} {σ : ev_M} : x_begin i a k σ (1000 + 100 * i + 13) = 0 := by
  unfold x_begin x_clear
  simp (disch := omega) only [ev_up_ne, ev_up_eqs]
theorem bg_14 {i a k : Int} {σ : ev_M} : x_begin i a k σ (1000 + 100 * i + 14) = (-4) := by
  unfold x_begin x_clear
  simp (disch := omega) only [ev_up_ne, ev_up_eqs]
theorem bg_15 {i a k : Int} {σ : ev_M} : x_begin i a k σ (1000 + 100 * i + 15) = 0 := by
  unfold x_begin x_clear
  simp (disch := omega) only [ev_up_ne, ev_up_eqs]
theorem bg_16 {i a k : Int} {σ : ev_M} : x_begin i a k σ (1000 + 100 * i + 16) = 0 := by
  unfold x_begin x_clear
  simp (disch := omega) only [ev_up_ne, ev_up_eqs]
theorem bg_17 {i a k : Int} {σ : ev_M} : x_begin i a k σ (1000 + 100 * i + 17) = (-4) := by
  unfold x_begin x_clear
  simp (disch := omega) only [ev_up_ne, ev_up_eqs]
theorem bg_21 {i a k : Int} {σ : ev_M} : x_begin i a k σ (1000 + 100 * i + 20 + 1) = 0 := by
  unfold x_begin x_clear
  simp (disch := omega) only [ev_up_ne, ev_up_eqs]
theorem bg_51 {i a k : Int} {σ : ev_M} : x_begin i a k σ (1000 + 100 * i + 50 + 1) = 0 := by
  unfold x_begin x_clear
  simp (disch := omega) only [ev_up_ne, ev_up_eqs]
theorem it_bg_o {a m : Int} {σ : ev_M} (hm : m < 1000) (n : Nat) : it (x_bg a) σ n m = σ m := it_at' n (fun i σ hi => by unfold x_bg; exact bg_o (by omega))
theorem it_bg_b {a m : Int} {σ : ev_M} (n : Nat) (hm : (30 ≤ (m - 1000) % 100 ∧ (m - 1000) % 100 < 42) ∨ (60 ≤ (m - 1000) % 100 ∧ (m - 1000) % 100 < 72)) : it (x_bg a) σ n m = σ m := it_at' n (fun i σ hi => by
  unfold x_bg
  by_cases hd : dev i m
  · have := bg_b (i := (i : Int)) (a := a) (k := (i : Int) * 5) (j := m - 1000 - 100 * (i : Int)) (σ := σ) (by omega)
    rw [show 1000 + 100 * (i : Int) + (m - 1000 - 100 * (i : Int)) = m by omega] at this
    exact this
  · exact bg_o hd)
theorem it_bg_2 {a : Int} {σ : ev_M} (ha : a + 40 < 1000) {e : Nat} (he : e < 6) : ∀ n : Nat, e < n → it (x_bg a) σ n (1000 + 100 * (e : Int) + 2) = σ (a + ((e : Int) * 5 + 0))
  | 0, h => by omega
  | n + 1, h => by
    show x_begin (n : Int) a ((n : Int) * 5) (it (x_bg a) σ n) (1000 + 100 * (e : Int) + 2) = σ (a + ((e : Int) * 5 + 0))
    by_cases hen : e = n
    · subst hen
      rw [bg_2]
      exact it_bg_o (by omega) _
    · rw [bg_o (by omega)]
      exact it_bg_2 ha he n (by omega)
theorem it_bg_3 {a : Int} {σ : ev_M} (ha : a + 40 < 1000) {e : Nat} (he : e < 6) : ∀ n : Nat, e < n → it (x_bg a) σ n (1000 + 100 * (e : Int) + 3) = σ (a + ((e : Int) * 5 + 1))
  | 0, h => by omega
  | n + 1, h => by
    show x_begin (n : Int) a ((n : Int) * 5) (it (x_bg a) σ n) (1000 + 100 * (e : Int) + 3) = σ (a + ((e : Int) * 5 + 1))
    by_cases hen : e = n
    · subst hen
      rw [bg_3]
      exact it_bg_o (by omega) _
    · rw [bg_o (by omega)]
      exact it_bg_3 ha he n (by omega)
theorem it_bg_4 {a : Int} {σ : ev_M} (ha : a + 40 < 1000) {e : Nat} (he : e < 6) : ∀ n : Nat, e < n → it (x_bg a) σ n (1000 + 100 * (e : Int) + 4) = σ (a + ((e : Int) * 5 + 2))
  | 0, h => by omega
  | n + 1, h => by
    show x_begin (n : Int) a ((n : Int) * 5) (it (x_bg a) σ n) (1000 + 100 * (e : Int) + 4) = σ (a + ((e : Int) * 5 + 2))
    by_cases hen : e = n
    · subst hen
      rw [bg_4]
      exact it_bg_o (by omega) _
    · rw [bg_o (by omega)]
      exact it_bg_4 ha he n (by omega)
theorem it_bg_5 {a : Int} {σ : ev_M} (ha : a + 40 < 1000) {e : Nat} (he : e < 6) : ∀ n : Nat, e < n → it (x_bg a) σ n (1000 + 100 * (e : Int) + 5) = σ (a + ((e : Int) * 5 + 3))
  | 0, h => by omega
  | n + 1, h => by
    show x_begin (n : Int) a ((n : Int) * 5) (it (x_bg a) σ n) (1000 + 100 * (e : Int) + 5) = σ (a + ((e : Int) * 5 + 3))
    by_cases hen : e = n
    · subst hen
      rw [bg_5]
      exact it_bg_o (by omega) _
    · rw [bg_o (by omega)]
      exact it_bg_5 ha he n (by omega)
theorem it_bg_6 {a : Int} {σ : ev_M} (ha : a + 40 < 1000) {e : Nat} (he : e < 6) : ∀ n : Nat, e < n → it (x_bg a) σ n (1000 + 100 * (e : Int) + 6) = σ (a + ((e : Int) * 5 + 4))
  | 0, h => by omega
  | n + 1, h => by
    show x_begin (n : Int) a ((n : Int) * 5) (it (x_bg a) σ n) (1000 + 100 * (e : Int) + 6) = σ (a + ((e : Int) * 5 + 4))
    by_cases hen : e = n
    · subst hen
      rw [bg_6]
      exact it_bg_o (by omega) _
    · rw [bg_o (by omega)]
      exact it_bg_6 ha he n (by omega)
theorem it_bg_7 {a : Int} {σ : ev_M} (ha : a + 40 < 1000) {e : Nat} (he : e < 6) : ∀ n : Nat, e < n → it (x_bg a) σ n (1000 + 100 * (e : Int) + 7) = 0
  | 0, h => by omega
  | n + 1, h => by
    show x_begin (n : Int) a ((n : Int) * 5) (it (x_bg a) σ n) (1000 + 100 * (e : Int) + 7) = 0
    by_cases hen : e = n
    · subst hen
      rw [bg_7]
    · rw [bg_o (by omega)]
      exact it_bg_7 ha he n (by omega)
theorem it_bg_8 {a : Int} {σ : ev_M} (ha : a + 40 < 1000) {e : Nat} (he : e < 6) : ∀ n : Nat, e < n → it (x_bg a) σ n (1000 + 100 * (e : Int) + 8) = 0
  | 0, h => by omega
  | n + 1, h => by
    show x_begin (n : Int) a ((n : Int) * 5) (it (x_bg a) σ n) (1000 + 100 * (e : Int) + 8) = 0
    by_cases hen : e = n
    · subst hen
      rw [bg_8]
    · rw [bg_o (by omega)]
      exact it_bg_8 ha he n (by omega)
theorem it_bg_9 {a : Int} {σ : ev_M} (ha : a + 40 < 1000) {e : Nat} (he : e < 6) : ∀ n : Nat, e < n → it (x_bg a) σ n (1000 + 100 * (e : Int) + 9) = 0
  | 0, h => by omega
  | n + 1, h => by
    show x_begin (n : Int) a ((n : Int) * 5) (it (x_bg a) σ n) (1000 + 100 * (e : Int) + 9) = 0
    by_cases hen : e = n
    · subst hen
      rw [bg_9]
    · rw [bg_o (by omega)]
      exact it_bg_9 ha he n (by omega)
theorem it_bg_10 {a : Int} {σ : ev_M} (ha : a + 40 < 1000) {e : Nat} (he : e < 6) : ∀ n : Nat, e < n → it (x_bg a) σ n (1000 + 100 * (e : Int) + 10) = 0
  | 0, h => by omega
  | n + 1, h => by
    show x_begin (n : Int) a ((n : Int) * 5) (it (x_bg a) σ n) (1000 + 100 * (e : Int) + 10) = 0
    by_cases hen : e = n
    · subst hen
      rw [bg_10]
    · rw [bg_o (by omega)]
      exact it_bg_10 ha he n (by omega)
theorem it_bg_11 {a : Int} {σ : ev_M} (ha : a + 40 < 1000) {e : Nat} (he : e < 6) : ∀ n : Nat, e < n → it (x_bg a) σ n (1000 + 100 * (e : Int) + 11) = 0
  | 0, h => by omega
  | n + 1, h => by
    show x_begin (n : Int) a ((n : Int) * 5) (it (x_bg a) σ n) (1000 + 100 * (e : Int) + 11) = 0
    by_cases hen : e = n
    · subst hen
      rw [bg_11]
    · rw [bg_o (by omega)]
      exact it_bg_11 ha he n (by omega)
theorem it_bg_12 {a : Int} {σ : ev_M} (ha : a + 40 < 1000) {e : Nat} (he : e < 6) : ∀ n : Nat, e < n → it (x_bg a) σ n (1000 + 100 * (e : Int) + 12) = 0
  | 0, h => by omega
  | n + 1, h => by
    show x_begin (n : Int) a ((n : Int) * 5) (it (x_bg a) σ n) (1000 + 100 * (e : Int) + 12) = 0
    by_cases hen : e = n
    · subst hen
      rw [bg_12]
    · rw [bg_o (by omega)]
      exact it_bg_12 ha he n (by omega)
theorem it_bg_13 {a : Int} {σ : ev_M} (ha : a + 40 < 1000) {e : Nat} (he : e < 6) : ∀ n : Nat, e < n → it (x_bg a) σ n (1000 + 100 * (e : Int) + 13) = 0
  | 0, h => by omega
  | n + 1, h => by
    show x_begin (n : Int) a ((n : Int) * 5) (it (x_bg a) σ n) (1000 + 100 * (e : Int) + 13) = 0
    by_cases hen : e = n
    · subst hen
      rw [bg_13]
    · rw [bg_o (by omega)]
      exact it_bg_13 ha he n (by omega)
theorem it_bg_14 {a : Int} {σ : ev_M} (ha : a + 40 < 1000) {e : Nat} (he : e < 6) : ∀ n : Nat, e < n → it (x_bg a) σ n (1000 + 100 * (e : Int) + 14) = (-4)
  | 0, h => by omega
  | n + 1, h => by
    show x_begin (n : Int) a ((n : Int) * 5) (it (x_bg a) σ n) (1000 + 100 * (e : Int) + 14) = (-4)
    by_cases hen : e = n
    · subst hen
      rw [bg_14]
    · rw [bg_o (by omega)]
      exact it_bg_14 ha he n (by omega)
theorem it_bg_15 {a : Int} {σ : ev_M} (ha : a + 40 < 1000) {e : Nat} (he : e < 6) : ∀ n : Nat, e < n → it (x_bg a) σ n (1000 + 100 * (e : Int) + 15) = 0
  | 0, h => by omega
  | n + 1, h => by
    show x_begin (n : Int) a ((n : Int) * 5) (it (x_bg a) σ n) (1000 + 100 * (e : Int) + 15) = 0
    by_cases hen : e = n
    · subst hen
      rw [bg_15]
    · rw [bg_o (by omega)]
      exact it_bg_15 ha he n (by omega)
theorem it_bg_16 {a : Int} {σ : ev_M} (ha : a + 40 < 1000) {e : Nat} (he : e < 6) : ∀ n : Nat, e < n → it (x_bg a) σ n (1000 + 100 * (e : Int) + 16) = 0
  | 0, h => by omega
  | n + 1, h => by
    show x_begin (n : Int) a ((n : Int) * 5) (it (x_bg a) σ n) (1000 + 100 * (e : Int) + 16) = 0
    by_cases hen : e = n
    · subst hen
      rw [bg_16]
    · rw [bg_o (by omega)]
      exact it_bg_16 ha he n (by omega)
theorem it_bg_17 {a : Int} {σ : ev_M} (ha : a + 40 < 1000) {e : Nat} (he : e < 6) : ∀ n : Nat, e < n → it (x_bg a) σ n (1000 + 100 * (e : Int) + 17) = (-4)
  | 0, h => by omega
  | n + 1, h => by
    show x_begin (n : Int) a ((n : Int) * 5) (it (x_bg a) σ n) (1000 + 100 * (e : Int) + 17) = (-4)
    by_cases hen : e = n
    · subst hen
      rw [bg_17]
    · rw [bg_o (by omega)]
      exact it_bg_17 ha he n (by omega)
theorem it_bg_21 {a : Int} {σ : ev_M} (ha : a + 40 < 1000) {e : Nat} (he : e < 6) : ∀ n : Nat, e < n → it (x_bg a) σ n (1000 + 100 * (e : Int) + 20 + 1) = 0
  | 0, h => by omega
  | n + 1, h => by
    show x_begin (n : Int) a ((n : Int) * 5) (it (x_bg a) σ n) (1000 + 100 * (e : Int) + 20 + 1) = 0
    by_cases hen : e = n
    · subst hen
      rw [bg_21]
    · rw [bg_o (by omega)]
      exact it_bg_21 ha he n (by omega)
theorem it_bg_51 {a : Int} {σ : ev_M} (ha : a + 40 < 1000) {e : Nat} (he : e < 6) : ∀ n : Nat, e < n → it (x_bg a) σ n (1000 + 100 * (e : Int) + 50 + 1) = 0
  | 0, h => by omega
  | n + 1, h => by
    show x_begin (n : Int) a ((n : Int) * 5) (it (x_bg a) σ n) (1000 + 100 * (e : Int) + 50 + 1) = 0
    by_cases hen : e = n
    · subst hen
      rw [bg_51]
    · rw [bg_o (by omega)]
      exact it_bg_51 ha he n (by omega)
theorem bw_hi {a n m : Int} {σ : ev_M} (hm : 1000 ≤ m) : x_bw a n σ m = it (x_bg a) (ev_up σ 4 n) n.toNat m := by
  unfold x_bw szx x_bw1
  rw [ev_up_ne (by omega), ev_up_ne (by omega), ev_up_ne (by omega), ev_up_ne (by omega), ev_up_ne (by omega), if_neg (by omega), ev_up_ne (by omega), ev_up_ne (by omega)]
theorem bw_2 {a n d : Int} {σ : ev_M} (ha : a = 60 ∨ a = 520) (h0 : 0 ≤ d) (h1 : d < n) (hn : n ≤ 6) : x_bw a n σ (1000 + 100 * d + 2) = σ (a + (d * 5 + 0)) := by
  rw [bw_hi (by omega)]
  have := it_bg_2 (a := a) (σ := ev_up σ 4 n) (by omega) (e := d.toNat) (by omega) n.toNat (by omega)
  rw [show ((d.toNat : Nat) : Int) = d by omega, ev_up_ne (by omega)] at this
  exact this
theorem bw_3 {a n d : Int} {σ : ev_M} (ha : a = 60 ∨ a = 520) (h0 : 0 ≤ d) (h1 : d < n) (hn : n ≤ 6) : x_bw a n σ (1000 + 100 * d + 3) = σ (a + (d * 5 + 1)) := by
  rw [bw_hi (by omega)]
  have := it_bg_3 (a := a) (σ := ev_up σ 4 n) (by omega) (e := d.toNat) (by omega) n.toNat (by omega)
  rw [show ((d.toNat : Nat) : Int) = d by omega, ev_up_ne (by omega)] at this
  exact this
theorem bw_4' {a n d : Int} {σ : ev_M} (ha : a = 60 ∨ a = 520) (h0 : 0 ≤ d) (h1 : d < n) (hn : n ≤ 6) : x_bw a n σ (1000 + 100 * d + 4) = σ (a + (d * 5 + 2)) := by
  rw [bw_hi (by omega)]
  have := it_bg_4 (a := a) (σ := ev_up σ 4 n) (by omega) (e := d.toNat) (by omega) n.toNat (by omega)
  rw [show ((d.toNat : Nat) : Int) = d by omega, ev_up_ne (by omega)] at this
  exact this
theorem bw_5 {a n d : Int} {σ : ev_M} (ha : a = 60 ∨ a = 520) (h0 : 0 ≤ d) (h1 : d < n) (hn : n ≤ 6) : x_bw a n σ (1000 + 100 * d + 5) = σ (a + (d * 5 + 3)) := by
  rw [bw_hi (by omega)]
  have := it_bg_5 (a := a) (σ := ev_up σ 4 n) (by omega) (e := d.toNat) (by omega) n.toNat (by omega)
  rw [show ((d.toNat : Nat) : Int) = d by omega, ev_up_ne (by omega)] at this
  exact this
theorem bw_6 {a n d : Int} {σ : ev_M} (ha : a = 60 ∨ a = 520) (h0 : 0 ≤ d) (h1 : d < n) (hn : n ≤ 6) : x_bw a n σ (1000 + 100 * d + 6) = σ (a + (d * 5 + 4)) := by
  rw [bw_hi (by omega)]
  have := it_bg_6 (a := a) (σ := ev_up σ 4 n) (by omega) (e := d.toNat) (by omega) n.toNat (by omega)
  rw [show ((d.toNat : Nat) : Int) = d by omega, ev_up_ne (by omega)] at this
  exact this
theorem bw_7 {a n d : Int} {σ : ev_M} (ha : a = 60 ∨ a = 520) (h0 : 0 ≤ d) (h1 : d < n) (hn : n ≤ 6) : x_bw a n σ (1000 + 100 * d + 7) = 0 := by
  rw [bw_hi (by omega)]
  have := it_bg_7 (a := a) (σ := ev_up σ 4 n) (by omega) (e := d.toNat) (by omega) n.toNat (by omega)
  rw [show ((d.toNat : Nat) : Int) = d by omega] at this
  exact this
theorem bw_8 {a n d : Int} {σ : ev_M} (ha : a = 60 ∨ a = 520) (h0 : 0 ≤ d) (h1 : d < n) (hn : n ≤ 6) : x_bw a n σ (1000 + 100 * d + 8) = 0 := by
  rw [bw_hi (by omega)]
  have := it_bg_8 (a := a) (σ := ev_up σ 4 n) (by omega) (e := d.toNat) (by omega) n.toNat (by omega)
  rw [show ((d.toNat : Nat) : Int) = d by omega] at this
  exact this
theorem bw_9 {a n d : Int} {σ : ev_M} (ha : a = 60 ∨ a = 520) (h0 : 0 ≤ d) (h1 : d < n) (hn : n ≤ 6) : x_bw a n σ (1000 + 100 * d + 9) = 0 := by
  rw [bw_hi (by omega)]
  have := it_bg_9 (a := a) (σ := ev_up σ 4 n) (by omega) (e := d.toNat) (by omega) n.toNat (by omega)
  rw [show ((d.toNat : Nat) : Int) = d by omega] at this
  exact this
theorem bw_10 {a n d : Int} {σ : ev_M} (ha : a = 60 ∨ a = 520) (h0 : 0 ≤ d) (h1 : d < n) (hn : n ≤ 6) : x_bw a n σ (1000 + 100 * d + 10) = 0 := by
  rw [bw_hi (by omega)]
  have := it_bg_10 (a := a) (σ := ev_up σ 4 n) (by omega) (e := d.toNat) (by omega) n.toNat (by omega)
  rw [show ((d.toNat : Nat) : Int) = d by omega] at this
  exact this
theorem bw_11 {a n d : Int} {σ : ev_M} (ha : a = 60 ∨ a = 520) (h0 : 0 ≤ d) (h1 : d < n) (hn : n ≤ 6) : x_bw a n σ (1000 + 100 * d + 11) = 0 := by
  rw [bw_hi (by omega)]
  have := it_bg_11 (a := a) (σ := ev_up σ 4 n) (by omega) (e := d.toNat) (by omega) n.toNat (by omega)
  rw [show ((d.toNat : Nat) : Int) = d by omega] at this
  exact this
theorem bw_12 {a n d : Int} {σ : ev_M} (ha : a = 60 ∨ a = 520) (h0 : 0 ≤ d) (h1 : d < n) (hn : n ≤ 6) : x_bw a n σ (1000 + 100 * d + 12) = 0 := by
  rw [bw_hi (by omega)]
  have := it_bg_12 (a := a) (σ := ev_up σ 4 n) (by omega) (e := d.toNat) (by omega) n.toNat (by omega)
  rw [show ((d.toNat : Nat) : Int) = d by omega] at this
  exact this
theorem bw_13 {a n d : Int} {σ : ev_M} (ha : a = 60 ∨ a = 520) (h0 : 0 ≤ d) (h1 : d < n) (hn : n ≤ 6) : x_bw a n σ (1000 + 100 * d + 13) = 0 := by
  rw [bw_hi (by omega)]
  have := it_bg_13 (a := a) (σ := ev_up σ 4 n) (by omega) (e := d.toNat) (by omega) n.toNat (by omega)
  rw [show ((d.toNat : Nat) : Int) = d by omega] at this
  exact this
theorem bw_14 {a n d : Int} {σ : ev_M} (ha : a = 60 ∨ a = 520) (h0 : 0 ≤ d) (h1 : d < n) (hn : n ≤ 6) : x_bw a n σ (1000 + 100 * d + 14) = (-4) := by
  rw [bw_hi (by omega)]
  have := it_bg_14 (a := a) (σ := ev_up σ 4 n) (by omega) (e := d.toNat) (by omega) n.toNat (by omega)
  rw [show ((d.toNat : Nat) : Int) = d by omega] at this
  exact this
theorem bw_15 {a n d : Int} {σ : ev_M} (ha : a = 60 ∨ a = 520) (h0 : 0 ≤ d) (h1 : d < n) (hn : n ≤ 6) : x_bw a n σ (1000 + 100 * d + 15) = 0 := by
  rw [bw_hi (by omega)]
  have := it_bg_15 (a := a) (σ := ev_up σ 4 n) (by omega) (e := d.toNat) (by omega) n.toNat (by omega)
  rw [show ((d.toNat : Nat) : Int) = d by omega] at this
  exact this
theorem bw_16 {a n d : Int} {σ : ev_M} (ha : a = 60 ∨ a = 520) (h0 : 0 ≤ d) (h1 : d < n) (hn : n ≤ 6) : x_bw a n σ (1000 + 100 * d + 16) = 0 := by
  rw [bw_hi (by omega)]
  have := it_bg_16 (a := a) (σ := ev_up σ 4 n) (by omega) (e := d.toNat) (by omega) n.toNat (by omega)
  rw [show ((d.toNat : Nat) : Int) = d by omega] at this
  exact this
theorem bw_17 {a n d : Int} {σ : ev_M} (ha : a = 60 ∨ a = 520) (h0 : 0 ≤ d) (h1 : d < n) (hn : n ≤ 6) : x_bw a n σ (1000 + 100 * d + 17) = (-4) := by
  rw [bw_hi (by omega)]
  have := it_bg_17 (a := a) (σ := ev_up σ 4 n) (by omega) (e := d.toNat) (by omega) n.toNat (by omega)
  rw [show ((d.toNat : Nat) : Int) = d by omega] at this
  exact this
theorem bw_21 {a n d : Int} {σ : ev_M} (ha : a = 60 ∨ a = 520) (h0 : 0 ≤ d) (h1 : d < n) (hn : n ≤ 6) : x_bw a n σ (1000 + 100 * d + 20 + 1) = 0 := by
  rw [bw_hi (by omega)]
  have := it_bg_21 (a := a) (σ := ev_up σ 4 n) (by omega) (e := d.toNat) (by omega) n.toNat (by omega)
  rw [show ((d.toNat : Nat) : Int) = d by omega] at this
  exact this
theorem bw_51 {a n d : Int} {σ : ev_M} (ha : a = 60 ∨ a = 520) (h0 : 0 ≤ d) (h1 : d < n) (hn : n ≤ 6) : x_bw a n σ (1000 + 100 * d + 50 + 1) = 0 := by
  rw [bw_hi (by omega)]
  have := it_bg_51 (a := a) (σ := ev_up σ 4 n) (by omega) (e := d.toNat) (by omega) n.toNat (by omega)
  rw [show ((d.toNat : Nat) : Int) = d by omega] at this
  exact this
theorem bw_lo {a n m : Int} {σ : ev_M} (h : m < 1000) (hm : m ≠ 4 ∧ m ≠ 5 ∧ m ≠ 6 ∧ m ≠ 7 ∧ m ≠ 8 ∧ m ≠ 9 ∧ m ≠ 33 ∧ m ≠ 34 ∧ (m < 40 ∨ 48 ≤ m)) : x_bw a n σ m = σ m := by
  unfold x_bw szx x_bw1
  rw [ev_up_ne (by omega), ev_up_ne (by omega), ev_up_ne (by omega), ev_up_ne (by omega), ev_up_ne (by omega), if_neg (by omega), ev_up_ne (by omega), ev_up_ne (by omega), it_bg_o h, ev_up_ne (by omega)]
theorem bw_4 {a n : Int} {σ : ev_M} : x_bw a n σ 4 = n := by
  unfold x_bw szx x_bw1
  rw [ev_up_ne (by decide), ev_up_ne (by decide), ev_up_ne (by decide), ev_up_ne (by decide), ev_up_ne (by decide), if_neg (by decide), ev_up_ne (by decide), ev_up_ne (by decide), it_bg_o (by decide), ev_up_eq]
theorem bw_33 {a n : Int} {σ : ev_M} : x_bw a n σ 33 = 0 ∧ x_bw a n σ 34 = 0 := by
  unfold x_bw szx x_bw1
  constructor
  · rw [ev_up_ne (by decide), ev_up_ne (by decide), ev_up_ne (by decide), ev_up_ne (by decide), ev_up_ne (by decide), if_neg (by decide), ev_up_ne (by decide), ev_up_eq]
  · rw [ev_up_ne (by decide), ev_up_ne (by decide), ev_up_ne (by decide), ev_up_ne (by decide), ev_up_ne (by decide), if_neg (by decide), ev_up_eq]
theorem bw_g {a n : Int} {σ : ev_M} : x_bw a n σ 5 = 0 ∧ x_bw a n σ 6 = 0 ∧ x_bw a n σ 7 = -4 ∧ x_bw a n σ 8 = -4 ∧ x_bw a n σ 9 = 0 := by
  unfold x_bw
  refine ⟨?_, ?_, ?_, ?_, ?_⟩
  · rw [ev_up_ne (by decide), ev_up_ne (by decide), ev_up_ne (by decide), ev_up_ne (by decide), ev_up_eq]
  · rw [ev_up_ne (by decide), ev_up_ne (by decide), ev_up_ne (by decide), ev_up_eq]
  · rw [ev_up_ne (by decide), ev_up_ne (by decide), ev_up_eq]
  · rw [ev_up_ne (by decide), ev_up_eq]
  · rw [ev_up_eq]
theorem bw_s {a n m : Int} {σ : ev_M} (h0 : 40 ≤ m) (h1 : m < 48) : x_bw a n σ m = 0 := by
  unfold x_bw szx
  rw [ev_up_ne (by omega), ev_up_ne (by omega), ev_up_ne (by omega), ev_up_ne (by omega), ev_up_ne (by omega), if_pos (by omega)]
theorem mb_hi {τ : ev_M} {k : Int} (h : 300 ≤ k ∧ k < 408) : m_begins τ k = finv (ev_up τ 2 (τ 15)) ((k - 300) / 18) ((k - 300) % 18) := by
  unfold m_begins szk m_bg1
  rw [if_neg (by omega), ev_up_ne (by omega), ev_up_ne (by omega), ev_up_ne (by omega), ev_up_ne (by omega), ev_up_ne (by omega), ev_up_ne (by omega)]
  unfold bgk
  rw [if_pos h, if_pos (by omega)]
theorem mb_f {τ : ev_M} {d w : Int} (h0 : 0 ≤ d) (h1 : d < 6) (w0 : 0 ≤ w) (w1 : w < 18) : m_begins τ (300 + (18 * d + w)) = if w = 11 ∨ w = 14 then -4 else if w < 5 ∧ d < τ 15 then τ (640 + (5 * d + w)) else 0 := by
  rw [mb_hi (by omega), show (300 + (18 * d + w) - 300) / 18 = d by omega, show (300 + (18 * d + w) - 300) % 18 = w by omega]
  unfold finv rawv
  rw [ev_up_ne (k := 15) (by decide), ev_up_ne (k := 640 + (5 * d + w)) (by omega)]
theorem mb_lo {τ : ev_M} {k : Int} (h : k < 300 ∨ 408 ≤ k) (hk : k ≠ 2 ∧ k ≠ 5 ∧ k ≠ 6 ∧ k ≠ 7 ∧ k ≠ 8 ∧ k ≠ 9 ∧ k ≠ 11 ∧ (k < 570 ∨ 578 ≤ k)) : m_begins τ k = τ k := by
  unfold m_begins szk m_bg1
  rw [if_neg (by omega), ev_up_ne (by omega), ev_up_ne (by omega), ev_up_ne (by omega), ev_up_ne (by omega), ev_up_ne (by omega), ev_up_ne (by omega)]
  unfold bgk
  rw [if_neg (by omega), ev_up_ne (by omega)]
theorem mb_g {τ : ev_M} : m_begins τ 2 = τ 15 ∧ m_begins τ 5 = 0 ∧ m_begins τ 6 = 0 ∧ m_begins τ 7 = 0 ∧ m_begins τ 8 = -4 ∧ m_begins τ 9 = 0 ∧ m_begins τ 11 = 0 := by
  unfold m_begins szk m_bg1
  refine ⟨?_, ?_, ?_, ?_, ?_, ?_, ?_⟩
  · rw [if_neg (by decide), ev_up_ne (by decide), ev_up_ne (by decide), ev_up_ne (by decide), ev_up_ne (by decide), ev_up_ne (by decide), ev_up_ne (by decide)]
    unfold bgk
    rw [if_neg (by decide), ev_up_eq]
  · rw [if_neg (by decide), ev_up_ne (by decide), ev_up_ne (by decide), ev_up_ne (by decide), ev_up_ne (by decide), ev_up_ne (by decide), ev_up_eq]
  · rw [if_neg (by decide), ev_up_ne (by decide), ev_up_ne (by decide), ev_up_ne (by decide), ev_up_ne (by decide), ev_up_eq]
  · rw [if_neg (by decide), ev_up_ne (by decide), ev_up_ne (by decide), ev_up_ne (by decide), ev_up_eq]
  · rw [if_neg (by decide), ev_up_ne (by decide), ev_up_ne (by decide), ev_up_eq]
  · rw [if_neg (by decide), ev_up_ne (by decide), ev_up_eq]
  · rw [if_neg (by decide), ev_up_eq]
theorem mb_s {τ : ev_M} {k : Int} (h0 : 570 ≤ k) (h1 : k < 578) : m_begins τ k = 0 := by
  unfold m_begins szk
  rw [if_pos (by omega)]
/-- what was told, and where both keep it -/
def TD (a n : Int) (σ τ : ev_M) : Prop := (a = 60 ∨ a = 520) ∧ 1 ≤ n ∧ n ≤ 6 ∧ τ 15 = n ∧ (∀ i j, 0 ≤ i → i < n → 0 ≤ j → j < 5 → σ (a + (i * 5 + j)) = τ (640 + (5 * i + j))) ∧ (∀ d e, 0 ≤ d → d < n → 0 ≤ e → e < n → d ≠ e → τ (640 + (5 * d + 1)) = τ (640 + (5 * e + 1)) → τ (640 + (5 * d + 2)) ≠ 31) ∧ (∀ d j, 0 ≤ d → d < n → 0 ≤ j → j < 5 → (if j = 3 then 1 else 0) ≤ τ (640 + (5 * d + j)) ∧ τ (640 + (5 * d + j)) ≤ hst j) ∧ τ 0 = σ 22 ∧ (∀ k, (100 ≤ k ∧ k < 300) ∨ (420 ≤ k ∧ k < 564) → τ k = σ (lc k))
theorem begin_R0 {a n : Int} {σ τ : ev_M} (h : TD a n σ τ) : R0 n (x_bw a n σ) (m_begins τ) := by
  obtain ⟨ha, n1, n6, h15, hV, hcf, hrg, hlen, hoth⟩ := h
  obtain ⟨g2, g5, g6, g7, g8, g9, g11⟩ := mb_g (τ := τ)
  obtain ⟨x5, x6, x7, x8, x9⟩ := bw_g (a := a) (n := n) (σ := σ)
  intro k hk
  by_cases hf : 300 ≤ k ∧ k < 408
  · have hk' : k < 300 + 18 * n ∧ (k - 300) % 18 ≠ 5 ∧ (k - 300) % 18 ≠ 12 ∧ (k - 300) % 18 ≠ 17 := by unfold rel at hk; omega
    obtain ⟨d, hd⟩ : ∃ d, d = (k - 300) / 18 := ⟨_, rfl⟩
    obtain ⟨v, hv⟩ : ∃ v, v = (k - 300) % 18 := ⟨_, rfl⟩
    have d0 : 0 ≤ d := by omega
    have d1 : d < n := by omega
    have d6 : d < 6 := by omega
    have ek : k = 300 + (18 * d + v) := by omega
    have v0 : 0 ≤ v ∧ v < 18 := by omega
    rw [ek, mb_f d0 d6 v0.1 v0.2, h15]
    have vv : v = 0 ∨ v = 1 ∨ v = 2 ∨ v = 3 ∨ v = 4 ∨ v = 6 ∨ v = 7 ∨ v = 8 ∨ v = 9 ∨ v = 10 ∨ v = 11 ∨ v = 13 ∨ v = 14 ∨ v = 15 ∨ v = 16 := by omega
    clear ek hv hk'
    rcases vv with rfl | rfl | rfl | rfl | rfl | rfl | rfl | rfl | rfl | rfl | rfl | rfl | rfl | rfl | rfl
    · rw [(lc_0 d0 d6).2, bw_2 ha d0 d1 n6, if_neg (by decide), if_pos ⟨by decide, d1⟩, hV d 0 d0 d1 (by decide) (by decide)]
    · rw [(lc_1 d0 d6).2, bw_3 ha d0 d1 n6, if_neg (by decide), if_pos ⟨by decide, d1⟩, hV d 1 d0 d1 (by decide) (by decide)]
    · rw [(lc_2 d0 d6).2, bw_4' ha d0 d1 n6, if_neg (by decide), if_pos ⟨by decide, d1⟩, hV d 2 d0 d1 (by decide) (by decide)]
    · rw [(lc_3 d0 d6).2, bw_5 ha d0 d1 n6, if_neg (by decide), if_pos ⟨by decide, d1⟩, hV d 3 d0 d1 (by decide) (by decide)]
    · rw [(lc_4 d0 d6).2, bw_6 ha d0 d1 n6, if_neg (by decide), if_pos ⟨by decide, d1⟩, hV d 4 d0 d1 (by decide) (by decide)]
    · rw [(lc_6 d0 d6).2, bw_9 ha d0 d1 n6, if_neg (by decide), if_neg (fun h9 => absurd h9.1 (by decide))]
    · rw [(lc_7 d0 d6).2, bw_10 ha d0 d1 n6, if_neg (by decide), if_neg (fun h9 => absurd h9.1 (by decide))]
    · rw [(lc_8 d0 d6).2, bw_11 ha d0 d1 n6, if_neg (by decide), if_neg (fun h9 => absurd h9.1 (by decide))]
    · rw [(lc_9 d0 d6).2, bw_7 ha d0 d1 n6, if_neg (by decide), if_neg (fun h9 => absurd h9.1 (by decide))]
    · rw [(lc_10 d0 d6).2, bw_8 ha d0 d1 n6, if_neg (by decide), if_neg (fun h9 => absurd h9.1 (by decide))]
    · rw [(lc_11 d0 d6).2, bw_14 ha d0 d1 n6, if_pos (by decide)]
    · rw [(lc_13 d0 d6).2, bw_16 ha d0 d1 n6, if_neg (by decide), if_neg (fun h9 => absurd h9.1 (by decide))]
    · rw [(lc_14 d0 d6).2, bw_17 ha d0 d1 n6, if_pos (by decide)]
    · rw [(lc_15 d0 d6).2, bw_21 ha d0 d1 n6, if_neg (by decide), if_neg (fun h9 => absurd h9.1 (by decide))]
    · rw [(lc_16 d0 d6).2, bw_51 ha d0 d1 n6, if_neg (by decide), if_neg (fun h9 => absurd h9.1 (by decide))]
  · by_cases hb : (100 ≤ k ∧ k < 300) ∨ (420 ≤ k ∧ k < 564)
    · rw [mb_lo (by omega) (by omega), hoth k hb]
      by_cases hl : k < 300
      · have := lc_ltr (i := k - 100) (by omega) (by omega)
        rw [show 100 + (k - 100) = k by omega] at this
        rw [this.2, bw_lo (by omega) (by omega)]
      · have e : lc k = 1000 + 100 * ((k - 420) / 24) + (if (k - 420) % 24 < 12 then 30 + (k - 420) % 24 else 48 + (k - 420) % 24) := by
          unfold lc
          rw [if_neg (by omega), if_neg (by omega), if_neg (by omega), if_neg (by omega), if_neg (by omega), if_neg (by omega), if_neg (by omega), if_neg (by omega), if_neg (by omega), if_neg (by omega)]
        have hlk : 1000 ≤ lc k ∧ ((30 ≤ (lc k - 1000) % 100 ∧ (lc k - 1000) % 100 < 42) ∨ (60 ≤ (lc k - 1000) % 100 ∧ (lc k - 1000) % 100 < 72)) := by
          rw [e]
          split <;> omega
        rw [bw_hi hlk.1, it_bg_b _ hlk.2, ev_up_ne (by omega)]
    · by_cases hs : 570 ≤ k ∧ k < 578
      · have := lc_sum (k := k - 570) (by omega) (by omega)
        rw [show 570 + (k - 570) = k by omega] at this
        rw [mb_s hs.1 hs.2, this.2, bw_s (by omega) (by omega)]
      · have : k = 2 ∨ k = 7 ∨ k = 5 ∨ k = 6 ∨ k = 8 ∨ k = 0 ∨ k = 11 := by unfold rel at hk; omega
        rcases this with rfl | rfl | rfl | rfl | rfl | rfl | rfl
        · rw [g2, h15]; exact bw_4.symm
        · rw [g7]; exact x5.symm
        · rw [g5]; exact x6.symm
        · rw [g6]; exact x9.symm
        · rw [g8]; exact x8.symm
        · rw [mb_lo (by decide) (by decide), hlen]; exact (bw_lo (by decide) (by decide)).symm
        · rw [g11]; exact bw_33.1.symm
theorem begin_rel {a n : Int} {σ τ : ev_M} (h : TD a n σ τ) : RR n (x_bw a n σ) (m_begins τ) := by
  have hR := begin_R0 h
  obtain ⟨ha, n1, n6, h15, hV, hcf, hrg, hlen, hoth⟩ := h
  obtain ⟨g2, g5, g6, g7, g8, g9, g11⟩ := mb_g (τ := τ)
  obtain ⟨x5, x6, x7, x8, x9⟩ := bw_g (a := a) (n := n) (σ := σ)
  refine ⟨⟨⟨n1, n6, by rw [g2, h15]⟩, hR, fun d h0 h1 => ?_, ⟨Or.inl x7, fun d h0 h1 => ?_⟩, ⟨fun d e h0 h1 e0 e1 hne => ?_, fun d h0 h1 => ?_⟩, ⟨by rw [bw_33.2]; decide, by rw [bw_33.2]; decide, by rw [bw_33.1]; decide, by rw [bw_33.1]; decide, fun i i0 i1 => by rw [bw_33.1] at i1; omega⟩, by rw [x6]; exact ⟨by decide, by omega⟩⟩, ⟨by rw [x5]; decide, fun d h0 h1 => Or.inl (bw_17 ha h0 h1 n6)⟩, fun d h0 h1 => ?_, fun d h0 h1 => ?_⟩
  · rw [bw_14 ha h0 h1 n6]
    exact ⟨Or.inl rfl, fun h9 => by omega⟩
  · rw [x7, mb_f h0 (by omega) (by decide) (by decide), if_neg (by decide), if_neg (fun h9 => absurd h9.1 (by decide)), if_neg (by omega)]
  · rw [bw_3 ha h0 h1 n6, bw_3 ha e0 e1 n6, bw_4' ha h0 h1 n6, hV d 1 h0 h1 (by decide) (by decide), hV e 1 e0 e1 (by decide) (by decide), hV d 2 h0 h1 (by decide) (by decide)]
    exact hcf d e h0 h1 e0 e1 hne
  · rw [bw_5 ha h0 h1 n6, bw_4' ha h0 h1 n6, hV d 3 h0 h1 (by decide) (by decide), hV d 2 h0 h1 (by decide) (by decide)]
    exact ⟨(hrg d 3 h0 h1 (by decide) (by decide)).1, (hrg d 2 h0 h1 (by decide) (by decide)).2⟩
  · rw [bw_13 ha h0 h1 n6, mb_f h0 (by omega) (by decide) (by decide), if_neg (by decide), if_neg (fun h9 => absurd h9.1 (by decide))]
  · rw [bw_12 ha h0 h1 n6, g9]
    have := (bit63 ⟨d.toNat, by omega⟩).2
    rw [show (((⟨d.toNat, by omega⟩ : Fin 6) : Nat) : Int) = d by show ((d.toNat : Nat) : Int) = d; omega] at this
    exact this.symm
theorem XI.begin {b i a k : Int} {σ : ev_M} (h : XI b σ) (hb : 0 ≤ b) (h0 : 0 ≤ i) (h1 : i < 6) (v0 : 0 ≤ σ (a + (k + 0)) ∧ σ (a + (k + 0)) ≤ 2) (v1 : 0 ≤ σ (a + (k + 1)) ∧ σ (a + (k + 1)) ≤ 30) (v2 : 0 ≤ σ (a + (k + 2)) ∧ σ (a + (k + 2)) ≤ 31) (v3 : 0 ≤ σ (a + (k + 3)) ∧ σ (a + (k + 3)) ≤ 9) (v4 : 0 ≤ σ (a + (k + 4)) ∧ σ (a + (k + 4)) ≤ 60) : XI b (x_begin i a k σ) := by
  unfold x_begin
  exact ((((((((XI.clear (((((h.u2 h0 h1 v0.1 v0.2).u3 h0 h1 v1.1 v1.2).u4 h0 h1 v2.1 v2.2).u5 h0 h1 v3.1 v3.2).u6 h0 h1 v4.1 v4.2) h0 h1).u9 h0 h1 (by decide) (by decide)).u10 h0 h1 (by decide) (by decide)).u11 h0 h1 (by decide) (by decide)).u12 h0 h1 (by decide) (by decide)).u13 h0 h1 (by decide) (by decide)).u14 h0 h1 (by decide) (by decide)).u15 h0 h1 (by decide) (by decide)).u16 h0 h1 (by decide) (by decide)
theorem begin_XI {a n b : Int} {σ τ : ev_M} (h : TD a n σ τ) (hX : XI b σ) (hb : 0 ≤ b) : XI b (x_bw a n σ) := by
  obtain ⟨ha, n1, n6, h15, hV, hcf, hrg, hlen, hoth⟩ := h
  have h1 : XI b (it (x_bg a) (ev_up σ 4 n) n.toNat) := (it1 (P := fun k σ' => XI b σ' ∧ ∀ m, m < 1000 → σ' m = ev_up σ 4 n m) (f := x_bg a) n.toNat ⟨hX.t4 (by omega) n6, fun _ _ => rfl⟩ (by
    intro k σ' hk ⟨g, go⟩
    have rd : ∀ j, 0 ≤ j → j < 5 → 0 ≤ σ' (a + ((k : Int) * 5 + j)) ∧ σ' (a + ((k : Int) * 5 + j)) ≤ hst j := fun j j0 j1 => by
      rw [go _ (by omega), ev_up_ne (by omega), hV k j (by omega) (by omega) j0 j1]
      have := hrg k j (by omega) (by omega) j0 j1
      refine ⟨Int.le_trans ?_ this.1, this.2⟩
      split <;> decide
    refine ⟨g.begin hb (by omega) (by omega) (rd 0 (by decide) (by decide)) (rd 1 (by decide) (by decide)) (rd 2 (by decide) (by decide)) (rd 3 (by decide) (by decide)) (rd 4 (by decide) (by decide)), fun m hm => ?_⟩
    unfold x_bg
    rw [bg_o (by omega)]
    exact go m hm)).1
  have h2 : XI b (x_bw1 a n σ) := (h1.t33 (by decide) (by decide)).t34 (by decide) (by decide)
  have h3 : XI b (szx 8 (x_bw1 a n σ)) := by
    intro m
    unfold szx
    split
    · next hm =>
      have l : xlo m = 0 := by unfold xlo; rw [if_neg (by omega), if_neg (by omega), if_neg (by omega), if_pos (by omega)]
      have u : xhi b m = b := by unfold xhi; rw [if_neg (by omega), if_neg (by omega), if_neg (by omega), if_neg (by omega), if_neg (by omega), if_neg (by omega), if_neg (by omega), if_neg (by omega), if_neg (by omega), if_neg (by omega), if_neg (by omega), if_neg (by omega), if_pos (by omega)]
      rw [l, u]
      exact ⟨by decide, hb⟩
    · exact h2 m
  exact ((((h3.t5 (by decide) hb).t6 (by decide) (by decide)).t7 (by decide) (by decide)).t8 (by decide) (by decide)).t9 (by decide) (by decide)
theorem begin_MI {a n b : Int} {σ τ : ev_M} (h : TD a n σ τ) (hM : MI b τ) (hb : 0 ≤ b) : MI b (m_begins τ) := by
  obtain ⟨ha, n1, n6, h15, hV, hcf, hrg, hlen, hoth⟩ := h
  obtain ⟨g2, g5, g6, g7, g8, g9, g11⟩ := mb_g (τ := τ)
  intro k
  by_cases hf : 300 ≤ k ∧ k < 408
  · obtain ⟨d, hd⟩ : ∃ d, d = (k - 300) / 18 := ⟨_, rfl⟩
    obtain ⟨v, hv⟩ : ∃ v, v = (k - 300) % 18 := ⟨_, rfl⟩
    have d0 : 0 ≤ d := by omega
    have d6 : d < 6 := by omega
    have ek : k = 300 + (18 * d + v) := by omega
    have v0 : 0 ≤ v ∧ v < 18 := by omega
    rw [ek, mb_f d0 d6 v0.1 v0.2]
    have rd : v < 5 → d < τ 15 → 0 ≤ τ (640 + (5 * d + v)) ∧ τ (640 + (5 * d + v)) ≤ hst v := fun h5 h9 => by
      have := hrg d v d0 (by omega) v0.1 h5
      refine ⟨Int.le_trans ?_ this.1, this.2⟩
      split <;> decide
    have vv : v = 0 ∨ v = 1 ∨ v = 2 ∨ v = 3 ∨ v = 4 ∨ v = 5 ∨ v = 6 ∨ v = 7 ∨ v = 8 ∨ v = 9 ∨ v = 10 ∨ v = 11 ∨ v = 12 ∨ v = 13 ∨ v = 14 ∨ v = 15 ∨ v = 16 ∨ v = 17 := by omega
    clear ek hv
    rcases vv with rfl | rfl | rfl | rfl | rfl | rfl | rfl | rfl | rfl | rfl | rfl | rfl | rfl | rfl | rfl | rfl | rfl | rfl
    · rw [mlo_0 d0 d6, mhi_0 d0 d6, if_neg (by decide)]
      split
      · next h9 => exact rd h9.1 h9.2
      · exact ⟨by decide, by decide⟩
    · rw [mlo_1 d0 d6, mhi_1 d0 d6, if_neg (by decide)]
      split
      · next h9 => exact rd h9.1 h9.2
      · exact ⟨by decide, by decide⟩
    · rw [mlo_2 d0 d6, mhi_2 d0 d6, if_neg (by decide)]
      split
      · next h9 => exact rd h9.1 h9.2
      · exact ⟨by decide, by decide⟩
    · rw [mlo_3 d0 d6, mhi_3 d0 d6, if_neg (by decide)]
      split
      · next h9 => exact rd h9.1 h9.2
      · exact ⟨by decide, by decide⟩
    · rw [mlo_4 d0 d6, mhi_4 d0 d6, if_neg (by decide)]
      split
      · next h9 => exact rd h9.1 h9.2
      · exact ⟨by decide, by decide⟩
    · rw [mlo_5 d0 d6, mhi_5 d0 d6, if_neg (by decide), if_neg (fun h9 => absurd h9.1 (by decide))]
      exact ⟨by decide, by decide⟩
    · rw [mlo_6 d0 d6, mhi_6 d0 d6, if_neg (by decide), if_neg (fun h9 => absurd h9.1 (by decide))]
      exact ⟨by decide, by decide⟩
    · rw [mlo_7 d0 d6, mhi_7 d0 d6, if_neg (by decide), if_neg (fun h9 => absurd h9.1 (by decide))]
      exact ⟨by decide, by decide⟩
    · rw [mlo_8 d0 d6, mhi_8 d0 d6, if_neg (by decide), if_neg (fun h9 => absurd h9.1 (by decide))]
      exact ⟨by decide, by decide⟩
    · rw [mlo_9 d0 d6, mhi_9 d0 d6, if_neg (by decide), if_neg (fun h9 => absurd h9.1 (by decide))]
      exact ⟨by decide, by decide⟩
    · rw [mlo_10 d0 d6, mhi_10 d0 d6, if_neg (by decide), if_neg (fun h9 => absurd h9.1 (by decide))]
      exact ⟨by decide, by decide⟩
    · rw [mlo_11 d0 d6, mhi_11 d0 d6, if_pos (by decide)]
      exact ⟨by decide, by omega⟩
    · rw [mlo_12 d0 d6, mhi_12 d0 d6, if_neg (by decide), if_neg (fun h9 => absurd h9.1 (by decide))]
      exact ⟨by decide, by decide⟩
    · rw [mlo_13 d0 d6, mhi_13 d0 d6, if_neg (by decide), if_neg (fun h9 => absurd h9.1 (by decide))]
      exact ⟨by decide, by decide⟩
    · rw [mlo_14 d0 d6, mhi_14 d0 d6, if_pos (by decide)]
      exact ⟨by decide, by omega⟩
    · rw [mlo_15 d0 d6, mhi_15 d0 d6, if_neg (by decide), if_neg (fun h9 => absurd h9.1 (by decide))]
      exact ⟨by decide, by decide⟩
    · rw [mlo_16 d0 d6, mhi_16 d0 d6, if_neg (by decide), if_neg (fun h9 => absurd h9.1 (by decide))]
      exact ⟨by decide, by decide⟩
    · rw [mlo_17 d0 d6, mhi_17 d0 d6, if_neg (by decide), if_neg (fun h9 => absurd h9.1 (by decide))]
      exact ⟨by decide, by decide⟩
  · by_cases hs : 570 ≤ k ∧ k < 578
    · rw [mb_s hs.1 hs.2]
      have := hM.sum hs.1 hs.2
      have l : mlo k = 0 := by unfold mlo; rw [if_neg (by omega), if_neg (by omega), if_pos (by omega)]
      have u := (hM.usum (v := 0) hs.1 hs.2 (by decide) hb) k
      rw [ev_up_eq] at u
      exact u
    · by_cases hg : k = 2 ∨ k = 5 ∨ k = 6 ∨ k = 7 ∨ k = 8 ∨ k = 9 ∨ k = 11
      · rcases hg with rfl | rfl | rfl | rfl | rfl | rfl | rfl
        · rw [g2, h15]; exact ⟨by show (0 : Int) ≤ n; omega, n6⟩
        · rw [g5]; exact ⟨by decide, (by decide : (0 : Int) ≤ 5)⟩
        · rw [g6]; exact ⟨by decide, (by decide : (0 : Int) ≤ 1)⟩
        · rw [g7]; exact ⟨by decide, hb⟩
        · rw [g8]; exact ⟨by decide, (by decide : (-4 : Int) ≤ 127)⟩
        · rw [g9]; exact ⟨by decide, (by decide : (0 : Int) ≤ 63)⟩
        · rw [g11]; exact ⟨by decide, (by decide : (0 : Int) ≤ 16)⟩
      · rw [mb_lo (by omega) (by omega)]
        exact hM k
