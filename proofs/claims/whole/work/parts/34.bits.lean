/-! bits, the log, paces -/
def gbt (f : Nat → Int) : Nat → Int
  | 0 => 0
  | k + 1 => ev_or (gbt f k) (ev_shl (f k) (k : Int))
theorem bt_add0 : ∀ (k : Fin 6) (a : Fin 64) (v : Fin 2) (d : Fin 6), (a : Nat) < 2 ^ (k : Nat) → (d : Nat) ≤ (k : Nat) → ev_and (ev_shr (((a : Nat) : Int) + ((v : Nat) : Int) * 2 ^ (k : Nat)) ((d : Nat) : Int)) 1 = if (d : Nat) = (k : Nat) then ((v : Nat) : Int) else ev_and (ev_shr ((a : Nat) : Int) ((d : Nat) : Int)) 1 := by decide +kernel
theorem bt_add {k d : Nat} {a v : Int} (hk : k < 6) (h0 : 0 ≤ a) (h1 : a < 2 ^ k) (hv : v = 0 ∨ v = 1) (hd : d ≤ k) : ev_and (ev_shr (a + v * 2 ^ k) (d : Int)) 1 = if d = k then v else ev_and (ev_shr a (d : Int)) 1 := by
  have p6 := pw_le k (by omega)
  have := bt_add0 ⟨k, hk⟩ ⟨a.toNat, by omega⟩ ⟨v.toNat, by omega⟩ ⟨d, by omega⟩
  have ea : ((a.toNat : Nat) : Int) = a := by omega
  have ev : ((v.toNat : Nat) : Int) = v := by omega
  simp only [ea, ev] at this
  refine this ?_ hd
  have e2 : ((2 ^ k : Nat) : Int) = (2 : Int) ^ k := by norm_cast
  omega
theorem gbt_p {f : Nat → Int} : ∀ n : Nat, n ≤ 6 → (∀ k : Nat, k < n → f k = 0 ∨ f k = 1) → 0 ≤ gbt f n ∧ gbt f n < 2 ^ n ∧ ∀ d : Nat, d < n → ev_and (ev_shr (gbt f n) (d : Int)) 1 = f d
  | 0, _, _ => ⟨Int.le_refl 0, (by decide : (0 : Int) < 2 ^ 0), fun d h => by omega⟩
  | n + 1, hn, hf => by
    obtain ⟨a, b, e⟩ := gbt_p n (by omega) (fun k hk => hf k (by omega))
    have hv := hf n (by omega)
    have e1 : gbt f (n + 1) = gbt f n + f n * 2 ^ n := bt_or (by omega) a b hv
    have e2 : (2 : Int) ^ (n + 1) = 2 * 2 ^ n := by rw [Int.pow_succ]; omega
    have p0 : (0 : Int) < 2 ^ n := Int.pow_pos (by decide)
    rw [e1]
    refine ⟨?_, ?_, fun d hd => ?_⟩
    · rcases hv with h | h <;> rw [h] <;> omega
    · rcases hv with h | h <;> rw [h, e2] <;> omega
    · rw [bt_add (by omega) a b hv (by omega)]
      split
      · next h => rw [h]
      · exact e d (by omega)
theorem gbt_ext {f g : Nat → Int} : ∀ n : Nat, (∀ k : Nat, k < n → f k = g k) → gbt f n = gbt g n
  | 0, _ => rfl
  | n + 1, h => by
    show ev_or (gbt f n) (ev_shl (f n) (n : Int)) = ev_or (gbt g n) (ev_shl (g n) (n : Int))
    rw [gbt_ext n (fun k hk => h k (by omega)), h n (by omega)]
theorem lsr_g {τ : ev_M} : ∀ n : Nat, lsr τ n = gbt (fun k => τ (300 + (18 * (k : Int) + 6))) n
  | 0 => rfl
  | n + 1 => by
    show ev_or (lsr τ n) _ = ev_or _ _
    rw [lsr_g n]
theorem shl0 : ∀ k : Fin 6, ev_shl 0 ((k : Nat) : Int) = 0 := by decide +kernel
theorem or0 : ∀ a : Fin 64, ev_or ((a : Nat) : Int) 0 = ((a : Nat) : Int) := by decide +kernel
theorem tlr_g {x : Int} {τ : ev_M} : ∀ n : Nat, n ≤ 6 → tlr x τ n = gbt (fun k => if τ (300 + (18 * (k : Int) + 17)) = x then 1 else 0) n
  | 0, _ => rfl
  | n + 1, hn => by
    show ev_or (tlr x τ n) _ = ev_or _ _
    rw [tlr_g n (by omega)]
    congr 1
    show (if τ (300 + (18 * (n : Int) + 17)) = x then ev_shl 1 (n : Int) else 0) = ev_shl (if τ (300 + (18 * (n : Int) + 17)) = x then 1 else 0) (n : Int)
    split
    · rfl
    · exact (shl0 ⟨n, by omega⟩).symm
theorem lis_bit {b : Int} {τ : ev_M} (h : MI b τ) {n d : Nat} (hn : n ≤ 6) (hd : d < n) : ev_and (ev_shr (lsr τ n) (d : Int)) 1 = τ (300 + (18 * (d : Int) + 6)) := by
  rw [lsr_g]
  exact (gbt_p n hn (fun k hk => by have := h.h6 (d := (k : Int)) (by omega) (by omega); omega)).2.2 d hd
theorem tlr_bit {x : Int} {τ : ev_M} {n d : Nat} (hn : n ≤ 6) (hd : d < n) : ev_and (ev_shr (tlr x τ n) (d : Int)) 1 = if τ (300 + (18 * (d : Int) + 17)) = x then 1 else 0 := by
  rw [tlr_g n hn]
  exact (gbt_p n hn (fun k hk => by show (if _ then (1 : Int) else 0) = 0 ∨ (if _ then (1 : Int) else 0) = 1; split <;> simp)).2.2 d hd
theorem bit63 : ∀ d : Fin 6, ev_and (ev_shr 63 ((d : Nat) : Int)) 1 = 1 ∧ ev_and (ev_shr 0 ((d : Nat) : Int)) 1 = 0 := by decide +kernel
theorem lbr_g {σ : ev_M} : ∀ n : Nat, n ≤ 6 → (∀ k : Nat, k < n → σ (1000 + 100 * (k : Int) + 9) = 0 ∨ σ (1000 + 100 * (k : Int) + 9) = 1) → lbr σ n = gbt (fun k => σ (1000 + 100 * (k : Int) + 9)) n
  | 0, _, _ => rfl
  | n + 1, hn, hf => by
    have ih := lbr_g n (by omega) (fun k hk => hf k (by omega))
    have hg := gbt_p (f := fun k => σ (1000 + 100 * (k : Int) + 9)) n (by omega) (fun k hk => hf k (by omega))
    show (if σ (1000 + 100 * (n : Int) + 9) = 0 then lbr σ n else ev_or (lbr σ n) (ev_shl 1 (n : Int))) = ev_or (gbt (fun k => σ (1000 + 100 * (k : Int) + 9)) n) (ev_shl (σ (1000 + 100 * (n : Int) + 9)) (n : Int))
    rw [ih]
    rcases hf n (by omega) with h | h
    · rw [if_pos h, h, shl0 ⟨n, by omega⟩]
      have := pw_le n (by omega)
      have h9 := or0 ⟨(gbt (fun k => σ (1000 + 100 * (k : Int) + 9)) n).toNat, by omega⟩
      have e : (((gbt (fun k => σ (1000 + 100 * (k : Int) + 9)) n).toNat : Nat) : Int) = gbt (fun k => σ (1000 + 100 * (k : Int) + 9)) n := by omega
      simp only [e] at h9
      exact h9.symm
    · rw [if_neg (by omega), h]
theorem slow_rel {c : Int} {σ τ : ev_M} (h : Bn c σ τ) : ∀ n : Nat, (n : Int) ≤ c → slr 63 τ n = gpr σ n
  | 0, _ => rfl
  | n + 1, hn => by
    have ih := slow_rel h n (by omega)
    have r := h.r3 (d := (n : Int)) (by omega) (by omega)
    have b := (bit63 ⟨n, by have := h.1.2.1; omega⟩).1
    show (if ev_and (ev_shr 63 (n : Int)) 1 = 1 ∧ slr 63 τ n < τ (300 + (18 * (n : Int) + 3)) then τ (300 + (18 * (n : Int) + 3)) else slr 63 τ n) = (if gpr σ n < σ (1000 + 100 * (n : Int) + 5) then σ (1000 + 100 * (n : Int) + 5) else gpr σ n)
    rw [ih, r]
    simp only [b, true_and]
theorem lgo {n : Int} {τ : ev_M} (h : n < 580) : lg 0 τ n = τ n := lg_o (by omega) (by decide) (by decide)
theorem Bn.keep {c q : Int} {σ τ : ev_M} (h : Bn c σ τ) : Bn c (x_keep (σ 5) q (σ 6) σ) (m_logs q τ) := by
  obtain ⟨⟨a1, a2, a3⟩, b, s, t, f, ⟨g1, g2, g3, g4, g5⟩, i1, i2⟩ := id h
  have e11 := h.lgd
  have ex : ∀ n, n ≠ 33 → n ≠ 34 → (n < 100 ∨ 156 ≤ n) → x_keep (σ 5) q (σ 6) σ n = σ n := fun n h1 h2 h3 => by
    unfold x_keep
    rw [ev_up_ne (by omega), ev_up_ne (by omega), ev_up_ne (by omega), ev_up_ne (by omega), ev_up_ne (by omega)]
  have em : ∀ n, n ≠ 11 → n < 580 → m_logs q τ n = τ n := fun n h1 h2 => m_logs_o h2 h1
  have b0 : R0 c σ (lg 0 τ) := fun n hn => by
    rw [lgo (by have := rel_rng (rel6 a2 hn); omega)]
    exact b n hn
  have ev : (if τ 11 < 16 then τ 11 + 1 else 16) = (if 16 < σ 33 + 1 then 16 else σ 33 + 1) := by
    rw [e11]
    split <;> split <;> omega
  refine ⟨⟨a1, a2, by rw [em 2 (by decide) (by decide)]; exact a3⟩, ?_, s.fr (fun d h0 h1 => ex _ (by omega) (by omega) (by omega)) (fun d h0 h1 => ex _ (by omega) (by omega) (by omega)) (fun d h0 h1 => em _ (by omega) (by omega)), t.fr (ex 7 (by decide) (by decide) (by decide)) (fun d h0 h1 => em _ (by omega) (by omega)), f.fr (fun d h0 h1 => ex _ (by omega) (by omega) (by omega)) (fun d h0 h1 => ex _ (by omega) (by omega) (by omega)) (fun d h0 h1 => ex _ (by omega) (by omega) (by omega)), ?_, by rw [ex 6 (by decide) (by decide) (by decide)]; exact ⟨i1, i2⟩⟩
  · unfold x_keep m_logs
    rw [ev]
    exact R0.up ((((((((b0.upx a2 (by unfold xo; omega)).upx a2 (by unfold xo; omega)).upx a2 (by unfold xo; omega)).upx a2 (by unfold xo; omega)).upm a2 (by decide)).upm a2 (by decide)).upm a2 (by decide))) a2 (by decide) (by decide)
  · have e33 : x_keep (σ 5) q (σ 6) σ 33 = if 16 < σ 33 + 1 then 16 else σ 33 + 1 := ev_up_eq
    have e34 : x_keep (σ 5) q (σ 6) σ 34 = (σ 34 + 1) % 16 := by unfold x_keep; rw [ev_up_ne (by decide), ev_up_eq]
    have eA : ∀ p, 0 ≤ p → p < 16 → x_keep (σ 5) q (σ 6) σ (100 + p) = if p = σ 34 then σ 5 else σ (100 + p) := fun p p0 p1 => by
      unfold x_keep
      rw [ev_up_ne (by omega), ev_up_ne (by omega), ev_up_ne (by omega), ev_up_ne (by omega)]
      unfold ev_up
      split <;> split <;> first | rfl | omega
    have eB : ∀ p, 0 ≤ p → p < 16 → x_keep (σ 5) q (σ 6) σ (120 + p) = if p = σ 34 then q else σ (120 + p) := fun p p0 p1 => by
      unfold x_keep
      rw [ev_up_ne (by omega), ev_up_ne (by omega), ev_up_ne (by omega)]
      by_cases hp : p = σ 34
      · rw [if_pos hp, hp, ev_up_eq]
      · rw [if_neg hp, ev_up_ne (by omega), ev_up_ne (by omega)]
    have eC : ∀ p, 0 ≤ p → p < 16 → x_keep (σ 5) q (σ 6) σ (140 + p) = if p = σ 34 then σ 6 else σ (140 + p) := fun p p0 p1 => by
      unfold x_keep
      rw [ev_up_ne (by omega), ev_up_ne (by omega)]
      by_cases hp : p = σ 34
      · rw [if_pos hp, hp, ev_up_eq]
      · rw [if_neg hp, ev_up_ne (by omega), ev_up_ne (by omega), ev_up_ne (by omega)]
    have m0 : m_logs q τ 580 = τ 7 := by unfold m_logs; rw [ev_up_ne (by decide), ev_up_ne (by decide), ev_up_ne (by decide), ev_up_eq]
    have m1 : m_logs q τ 600 = q := by unfold m_logs; rw [ev_up_ne (by decide), ev_up_ne (by decide), ev_up_eq]
    have m2 : m_logs q τ 620 = τ 5 := by unfold m_logs; rw [ev_up_ne (by decide), ev_up_eq]
    have mS : ∀ k, (580 < k ∧ k < 596) ∨ (600 < k ∧ k < 616) ∨ (620 < k ∧ k < 636) → m_logs q τ k = τ (k - 1) := fun k hk => by
      unfold m_logs
      rw [ev_up_ne (by omega), ev_up_ne (by omega), ev_up_ne (by omega), ev_up_ne (by omega)]
      unfold lg
      rw [if_pos (by omega)]
    refine ⟨by rw [e34]; omega, by rw [e34]; omega, by rw [e33]; split <;> omega, by rw [e33]; split <;> omega, fun i i0 i1' => ?_⟩
    have i1'' : i < 16 ∧ i - 1 < σ 33 := by
      rw [e33] at i1'
      split at i1' <;> omega
    rw [e34]
    by_cases hi : i = 0
    · subst hi
      have ep : ((σ 34 + 1) % 16 + 16 - 1 - 0) % 16 = σ 34 := by omega
      rw [ep, eA _ g1 (by omega), eB _ g1 (by omega), eC _ g1 (by omega), if_pos rfl, if_pos rfl, if_pos rfl]
      exact ⟨by rw [show (580 : Int) + 0 = 580 by rfl, m0]; exact h.now, by rw [show (600 : Int) + 0 = 600 by rfl, m1], by rw [show (620 : Int) + 0 = 620 by rfl, m2]; exact h.chg⟩
    · have ep : ((σ 34 + 1) % 16 + 16 - 1 - i) % 16 = (σ 34 + 16 - 1 - (i - 1)) % 16 := by omega
      have en : (σ 34 + 16 - 1 - (i - 1)) % 16 ≠ σ 34 := by omega
      have := g5 (i - 1) (by omega) (by omega)
      rw [ep, eA _ (by omega) (by omega), eB _ (by omega) (by omega), eC _ (by omega) (by omega), if_neg en, if_neg en, if_neg en, mS (580 + i) (by omega), mS (600 + i) (by omega), mS (620 + i) (by omega), show 580 + i - 1 = 580 + (i - 1) by omega, show 600 + i - 1 = 600 + (i - 1) by omega, show 620 + i - 1 = 620 + (i - 1) by omega]
      exact this
theorem keep_f {d f q : Int} {σ : ev_M} (g1 : 0 ≤ σ 34) (g2 : σ 34 ≤ 15) (d0 : 0 ≤ d) (f0 : 0 ≤ f) : x_s1 q σ (1000 + 100 * d + f) = σ (1000 + 100 * d + f) := by
  unfold x_s1 x_keep
  rw [ev_up_ne (by omega), ev_up_ne (by omega), ev_up_ne (by omega), ev_up_ne (by omega), ev_up_ne (by omega), ev_up_ne (by omega)]
theorem s1_rel {c q : Int} {σ τ : ev_M} (h : Bn c σ τ) (hd : Du c σ) (hn : Nm c σ τ) (hp : Pr c σ τ) : Bn c (x_s1 q σ) (m_pre q τ) ∧ Du c (x_s1 q σ) ∧ Nm c (x_s1 q σ) (m_pre q τ) ∧ Pr c (x_s1 q σ) (m_pre q τ) := by
  obtain ⟨g1, g2, -, -, -⟩ := h.2.2.2.2.2.1
  have hk := h.keep (q := q)
  have em : ∀ n, n ≠ 11 → n < 570 → m_pre q τ n = τ n := fun n h1 h2 => by unfold m_pre; rw [ev_up_ne (by omega), m_logs_o (by omega) h1]
  refine ⟨?_, hd.fr ?_ (fun d h0 h1 => keep_f g1 g2 h0 (by decide)), hn.fr (fun d h0 h1 => keep_f g1 g2 h0 (by decide)) (fun d h0 h1 => em _ (by omega) (by have := h.1.2.1; omega)), hp.fr (fun d h0 h1 => keep_f g1 g2 h0 (by decide)) (em 9 (by decide) (by decide))⟩
  · unfold x_s1 m_pre
    rw [hk.s0]
    exact hk.us0
  · unfold x_s1 x_keep
    rw [ev_up_ne (by omega), ev_up_ne (by omega), ev_up_ne (by omega), ev_up_ne (by omega), ev_up_ne (by omega), ev_up_ne (by omega)]
theorem s2_rel {b c q : Int} {σ τ : ev_M} (hM : MI b τ) (hb : b ≤ 1000000000) (hq : ev_in q) (h : Bn c σ τ) (hd : Du c σ) (hn : Nm c σ τ) (hp : Pr c σ τ) : Bn c (x_s2 q σ) (m_tkd q τ) ∧ Du c (x_s2 q σ) ∧ Nm c (x_s2 q σ) (m_tkd q τ) ∧ Pr c (x_s2 q σ) (m_tkd q τ) := by
  obtain ⟨k1, k2, k3, k4⟩ := s1_rel (q := q) h hd hn hp
  have hM1 := hM.pre hb hq
  have e : x_gp (x_s1 q σ) = (((m_slow 63 (m_pre q τ)).toNat : Nat) : Int) := by
    have h1 : m_slow 63 (m_pre q τ) = x_gp (x_s1 q σ) := by
      unfold m_slow x_gp
      rw [k1.1.2.2, k1.c4]
      exact slow_rel k1 _ (by have := k1.1; omega)
    have h2 := m_slow_rng (set := 63) hM1
    omega
  unfold x_s2 m_tkd
  rw [e]
  have t := ticks_rel k1 k2 (m_slow 63 (m_pre q τ)).toNat
  have u := ticks_aux hM1 k1 (m_slow 63 (m_pre q τ)).toNat k3 k4
  exact ⟨t.1, t.2, u.1, u.2⟩
