/-! a command whole -/
theorem it_fix {f : Int → ev_M → ev_M} {σ : ev_M} : ∀ n : Nat, (∀ k : Nat, k < n → f (k : Int) σ = σ) → it f σ n = σ
  | 0, _ => rfl
  | n + 1, h => by
    show f (n : Int) (it f σ n) = σ
    rw [it_fix n (fun k hk => h k (by omega)), h n (by omega)]
theorem sl_rel {b c q : Int} {σ τ : ev_M} (hX : XI b σ) (h : Bn c σ τ) (hd : Du c σ) (hp : Pr c σ τ) (hq : 96 ≤ q) : Bn c (it (x_sl (q - 96)) σ c.toNat) (it (m_prep q) τ c.toNat) ∧ Du c (it (x_sl (q - 96)) σ c.toNat) ∧ ∀ d, 0 ≤ d → d < c → it (m_prep q) τ c.toNat (300 + (18 * d + 17)) = τ (300 + (18 * d + 17)) := by
  have hc := h.1
  have key := it2 (P := fun k σ' τ' => Bn c σ' τ' ∧ Du c σ' ∧ Z12 c σ σ' ∧ τ' 9 = τ 9 ∧ ∀ d, 0 ≤ d → d < c → τ' (300 + (18 * d + 17)) = τ (300 + (18 * d + 17))) (f := x_sl (q - 96)) (g := m_prep q) (σ := σ) (τ := τ) c.toNat ⟨h, hd, fun _ _ _ => rfl, rfl, fun _ _ _ => rfl⟩ (by
    intro k σ' τ' hk ⟨g, gd, g12, g9, g17⟩
    have k0 : 0 ≤ (k : Int) := by omega
    have k1 : (k : Int) < c := by omega
    have k6 : (k : Int) < 6 := by omega
    have h12 := hX.d12 k0 k6
    have hb := hp k k0 k1
    unfold x_sl m_prep
    rw [g12 k k0 k1, g9, ← hb]
    by_cases hz : σ (1000 + 100 * (k : Int) + 12) = 0
    · rw [if_pos hz, if_neg (by omega)]
      exact ⟨g, gd, g12, g9, g17⟩
    · rw [if_neg hz, if_pos (by omega : σ (1000 + 100 * (k : Int) + 12) = 1)]
      by_cases hl : q - 96 < 16
      · obtain ⟨a1, a2, a3, a4, a5, a6⟩ := and7 (a := q - 96) (by omega) hl
        rw [if_pos hl, if_pos (by omega : q < 112), if_pos (by omega : q < 112), a3, a6]
        refine ⟨g.ln k0 k6 (by omega), gd.fr (by rw [ev_up_ne (by omega), ev_up_ne (by omega)]) (fun d h0 h1 => by rw [ev_up_ne (by omega), ev_up_ne (by omega)]), fun d h0 h1 => by rw [ev_up_ne (by omega), ev_up_ne (by omega)]; exact g12 d h0 h1, by rw [ev_up_ne (by omega), ev_up_ne (by omega)]; exact g9, fun d h0 h1 => by rw [ev_up_ne (by omega), ev_up_ne (by omega)]; exact g17 d h0 h1⟩
      · rw [if_neg hl, if_neg (by omega : ¬ q < 112), if_neg (by omega : ¬ q < 112)]
        refine ⟨(g.ln4 k0 k6).m12 k0 k6 ev_up_eq, gd.fr (by rw [ev_up_ne (by omega)]) (fun d h0 h1 => by rw [ev_up_ne (by omega)]), fun d h0 h1 => by rw [ev_up_ne (by omega)]; exact g12 d h0 h1, by rw [ev_up_ne (by omega), ev_up_ne (by omega)]; exact g9, fun d h0 h1 => by rw [ev_up_ne (by omega), ev_up_ne (by omega)]; exact g17 d h0 h1⟩)
  exact ⟨key.1, key.2.1, key.2.2.2.2⟩
theorem as_rel {c s tl tt : Int} {σ τ : ev_M} (h : Bn c σ τ) (hd : Du c σ) (h1 : ∀ d, 0 ≤ d → d < c → (ev_and (ev_shr tl d) 1 = 1 ↔ σ (1000 + 100 * d + 13) = 1)) (h2 : ∀ d, 0 ≤ d → d < c → (ev_and (ev_shr tt d) 1 = 1 ↔ σ (1000 + 100 * d + 13) = 2)) : Bn c (it (x_as s) σ c.toNat) (it (m_sec s tl tt) τ c.toNat) ∧ Du c (it (x_as s) σ c.toNat) ∧ ∀ d, 0 ≤ d → d < c → it (m_sec s tl tt) τ c.toNat (300 + (18 * d + 17)) = τ (300 + (18 * d + 17)) := by
  have hc := h.1
  have key := it2 (P := fun k σ' τ' => Bn c σ' τ' ∧ Du c σ' ∧ (∀ d, 0 ≤ d → d < c → σ' (1000 + 100 * d + 13) = σ (1000 + 100 * d + 13)) ∧ ∀ d, 0 ≤ d → d < c → τ' (300 + (18 * d + 17)) = τ (300 + (18 * d + 17))) (f := x_as s) (g := m_sec s tl tt) (σ := σ) (τ := τ) c.toNat ⟨h, hd, fun _ _ _ => rfl, fun _ _ _ => rfl⟩ (by
    intro k σ' τ' hk ⟨g, gd, g13, g17⟩
    have k0 : 0 ≤ (k : Int) := by omega
    have k1 : (k : Int) < c := by omega
    have k6 : (k : Int) < 6 := by omega
    have b1 := h1 k k0 k1
    have b2 := h2 k k0 k1
    unfold x_as m_sec m_sec1
    rw [g13 k k0 k1, g.r2 k0 k1, g.1.2.2]
    by_cases hs : σ' (1000 + 100 * (k : Int) + 4) = s
    · rw [if_pos hs]
      by_cases n1 : σ (1000 + 100 * (k : Int) + 13) = 1
      · rw [if_pos n1, if_neg (fun h9 => by have := b2.mp h9.1; omega), if_pos ⟨b1.mpr n1, hs⟩]
        unfold x_bgl
        refine ⟨(g.u6 k0 k6).u7 k0 k6, gd.fr (by rw [ev_up_ne (by omega), ev_up_ne (by omega)]) (fun d h0 h1 => by rw [ev_up_ne (by omega), ev_up_ne (by omega)]), fun d h0 h1 => by rw [ev_up_ne (by omega), ev_up_ne (by omega)]; exact g13 d h0 h1, fun d h0 h1 => by rw [ev_up_ne (by omega), ev_up_ne (by omega)]; exact g17 d h0 h1⟩
      · rw [if_neg n1]
        have c1 : ¬ (ev_and (ev_shr tl (k : Int)) 1 = 1 ∧ σ' (1000 + 100 * (k : Int) + 4) = s) := fun h9 => n1 (b1.mp h9.1)
        by_cases n2 : σ (1000 + 100 * (k : Int) + 13) = 2
        · rw [if_pos n2, if_pos ⟨b2.mpr n2, hs⟩, if_neg c1]
          refine ⟨g.tk (Or.inr ⟨k0, k1⟩) (fun n hn => ?_) (fun d h0 h1 => ?_), gd.fr (by rw [ev_up_ne (by omega)]) (fun d h0 h1 => by rw [ev_up_ne (by omega)]), fun d h0 h1 => by rw [ev_up_ne (by omega)]; exact g13 d h0 h1, fun d h0 h1 => ?_⟩
          · rw [ev_up_ne (hn k k0 k6)]
            exact it_all_ne _ (fun d hd => hn d (by omega) (by omega))
          · by_cases hdk : d = (k : Int)
            · rw [hdk, ev_up_eq, if_pos rfl]
            · rw [ev_up_ne (by omega), if_neg hdk]
              have := it_all_at (w := 5) (v := 0) (τ := τ') (d := d.toNat) c.toNat (by omega)
              rw [show ((d.toNat : Nat) : Int) = d by omega] at this
              exact this
          · rw [ev_up_ne (by omega), it_all_ne _ (fun e he => by omega)]
            exact g17 d h0 h1
        · rw [if_neg n2, if_neg (fun h9 => n2 (b2.mp h9.1)), if_neg c1]
          exact ⟨g, gd, g13, g17⟩
    · rw [if_neg hs, if_neg (fun h9 => hs h9.2), if_neg (fun h9 => hs h9.2)]
      exact ⟨g, gd, g13, g17⟩)
  exact ⟨key.1, key.2.1, key.2.2.2⟩
theorem SS.pol {c v : Int} {σ τ : ev_M} (h : SS c σ τ) : SS c (ev_up σ 9 v) (ev_up τ 6 v) ∧ Z12 c σ (ev_up σ 9 v) := ⟨⟨h.1.upol, h.2.1.fr (fun e e0 e1 => ev_up_ne (by omega)) (fun e e0 e1 => ev_up_ne (by omega)), h.2.2.fr (ev_up_ne (by omega)) (fun e e0 e1 => ev_up_ne (by omega))⟩, fun e e0 e1 => ev_up_ne (by omega)⟩
theorem s5_rel {b c q tl tt : Int} {σ τ : ev_M} (hM : MI b τ) (h : SS c σ τ) (h12 : ∀ d, 0 ≤ d → d < c → σ (1000 + 100 * d + 12) = 0) (q0 : 0 ≤ q) (q1 : q < 96) : SS c (x_s5 q σ) (m_obey q tl tt τ) ∧ ∀ d, 0 ≤ d → d < c → x_s5 q σ (1000 + 100 * d + 12) = if q = 5 ∧ σ (1000 + 100 * d + 9) ≠ 0 then 1 else 0 := by
  have hc := h.1.1
  have c4 := h.1.c4
  have fin : ∀ σ' τ' : ev_M, q ≠ 5 → SS c σ' τ' ∧ Z12 c σ σ' → SS c σ' τ' ∧ ∀ d, 0 ≤ d → d < c → σ' (1000 + 100 * d + 12) = if q = 5 ∧ σ (1000 + 100 * d + 9) ≠ 0 then 1 else 0 := fun σ' τ' h5 h9 => ⟨h9.1, fun d h0 h1 => by rw [h9.2 d h0 h1, h12 d h0 h1, if_neg (fun h8 => h5 h8.1)]⟩
  unfold x_s5 m_obey
  rw [hc.2.2, c4]
  by_cases p32 : q < 32
  · rw [if_pos p32]
    unfold x_plain
    rw [c4]
    by_cases p9 : q = 9
    · subst p9
      rw [if_pos rfl, if_neg (by decide), if_pos rfl]
      exact fin _ _ (by decide) (pass_rel h)
    rw [if_neg p9]
    by_cases p24 : q = 24
    · subst p24
      rw [if_pos rfl, if_neg (by decide), if_neg (by decide), if_neg (by decide), if_neg (by decide), if_pos (by decide)]
      exact fin _ _ (by decide) h.pol
    rw [if_neg p24]
    by_cases p25 : q = 25
    · subst p25
      rw [if_pos rfl, if_neg (by decide), if_neg (by decide), if_neg (by decide), if_neg (by decide), if_pos (by decide)]
      exact fin _ _ (by decide) h.pol
    rw [if_neg p25]
    by_cases p17 : q = 17
    · subst p17
      rw [if_pos (by decide), if_neg (by decide), if_neg (by decide), if_pos rfl]
      exact fin _ _ (by decide) (all_rel h (fun k σ' τ' k0 k1 g => g.oa17 k0 k1))
    by_cases p20 : q = 20
    · subst p20
      rw [if_pos (by decide), if_pos (by decide)]
      obtain ⟨a1, a2⟩ := all_rel (f := x_oa 20) (g := m_tl 20 (m_lis τ)) h (fun k σ' τ' k0 k1 g => g.oa20 k0 k1)
      exact fin _ _ (by decide) ⟨comes_idle a1, a2⟩
    by_cases p21 : q = 21
    · subst p21
      rw [if_pos (by decide), if_neg (by decide), if_neg (by decide), if_neg (by decide), if_pos rfl]
      exact fin _ _ (by decide) (all_rel h (fun k σ' τ' k0 k1 g => g.oa21 k0 k1))
    rw [if_neg (by omega)]
    by_cases p8 : q = 8
    · subst p8
      rw [if_pos (by decide)]
      exact fin _ _ (by decide) (trig_rel hM h)
    by_cases pl : q < 9
    · rw [if_pos (Or.inl pl)]
      obtain ⟨a1, a2⟩ := lst_rel hM h p8 p20
      refine ⟨comes_idle a1, fun d h0 h1 => ?_⟩
      rw [a2 d h0 h1, h12 d h0 h1]
    · rw [if_neg (by omega), if_neg p9, if_neg p17, if_neg p21, if_neg (by omega), if_neg (by omega), if_neg (by omega), if_neg (by omega), if_neg (by omega)]
      have e : it (x_ol q) σ c.toNat = σ := it_fix _ (fun k hk => by
        unfold x_ol x_lst
        rw [if_neg (by omega : ¬ q = 1), if_neg (by omega : ¬ q = 4), if_neg (by omega : ¬ q = 5), if_neg p8]
        split <;> rfl)
      rw [e]
      exact fin _ _ (by omega) ⟨h, fun _ _ _ => rfl⟩
  · rw [if_neg p32, if_neg (by omega : ¬ (q < 9 ∨ q = 20)), if_neg (by omega : ¬ q = 9), if_neg (by omega : ¬ q = 17), if_neg (by omega : ¬ q = 21), if_neg (by omega : ¬ (q = 24 ∨ q = 25))]
    by_cases p63 : q < 63
    · rw [if_pos p63, if_neg (by omega : ¬ q = 63), if_pos (by omega : 32 ≤ q ∧ q ≤ 62)]
      exact fin _ _ (by omega) (all_rel h (fun k σ' τ' k0 k1 g => g.cl k0 k1))
    rw [if_neg p63]
    by_cases e63 : q = 63
    · rw [if_pos e63, if_pos e63]
      exact fin _ _ (by omega) (all_rel h (fun k σ' τ' k0 k1 g => g.el k0 k1))
    rw [if_neg e63, if_neg e63, if_neg (by omega : ¬ (32 ≤ q ∧ q ≤ 62)), if_pos (by omega : 64 ≤ q ∧ q ≤ 95)]
    by_cases p95 : q < 95
    · rw [if_pos p95, if_neg (by omega : ¬ q = 95)]
      obtain ⟨a1, a2⟩ := ct_rel (a := q - 64) h.silent ev_up_eq
      exact fin _ _ (by omega) ⟨a1, fun d h0 h1 => by rw [a2 d h0 h1, ev_up_ne (by omega)]⟩
    · rw [if_neg p95, if_pos (by omega : q = 95), if_pos (by omega : q = 95)]
      have e : it (m_addr (-4) 2) (it (m_all 5 0) τ c.toNat) c.toNat = it (m_all 5 0) τ c.toNat := it_fix _ (fun k hk => by
        unfold m_addr
        refine if_neg ?_
        rw [it_all_ne _ (fun d hd => by omega)]
        have := hM.h1 (d := (k : Int)) (by omega) (by omega)
        omega)
      rw [e]
      exact fin _ _ (by omega) ⟨h.silent, fun d h0 h1 => ev_up_ne (by omega)⟩
def RR (c : Int) (σ τ : ev_M) : Prop := Bn c σ τ ∧ Du c σ ∧ Nm c σ τ ∧ Pr c σ τ
theorem send_rel {b c q : Int} {σ τ : ev_M} (hX : XI b σ) (hM : MI b τ) (hb : b ≤ 700000000) (q0 : 0 ≤ q) (q1 : q ≤ 127) (h : RR c σ τ) : RR c (x_send q σ) (m_sends q τ) := by
  obtain ⟨h1, h2, h3, h4⟩ := h
  have hq : ev_in q := ⟨by omega, by omega⟩
  obtain ⟨k1, k2, k3, k4⟩ := s2_rel hM (by omega) hq h1 h2 h3 h4
  have hM2 := hM.tkd (by omega) hq
  have hX2 := hX.x2 (by omega) hq
  have hc := k1.1
  unfold x_send m_sends m_end
  rw [hc.2.2]
  generalize hσ2 : x_s2 q σ = σ2 at k1 k2 k3 k4 hX2
  generalize m_tkd q τ = τ2 at k1 k2 k3 k4 hM2 hc ⊢
  have hM3 := hM2.itall17 c.toNat (by omega)
  by_cases hq96 : q < 96
  · have e4 : x_s4 q σ = it x_enp σ2 c.toNat := by unfold x_s4 x_s3; rw [if_neg (by omega), hσ2, k1.c4]
    rw [e4]
    obtain ⟨n1, n2⟩ := enp_rel k1 k2
    obtain ⟨o1, o2⟩ := s5_rel (q := q) (tl := tlr 1 τ2 c.toNat) (tt := tlr 2 τ2 c.toNat) hM3 n1 n2 q0 hq96
    refine ⟨(o1.1.upm (by omega)).ulat, o1.2.2.fr (ev_up_ne (by decide)) (fun d h0 h1 => ev_up_ne (by omega)), o1.2.1.fr (fun d h0 h1 => ev_up_ne (by omega)) (fun d h0 h1 => by rw [ev_up_ne (by omega), ev_up_ne (by omega)]), fun d h0 h1 => ?_⟩
    rw [ev_up_ne (by omega), ev_up_ne (by decide), ev_up_eq, o2 d h0 h1]
    have hd6 : d.toNat < 6 := by omega
    have ed : ((d.toNat : Nat) : Int) = d := by omega
    by_cases q5 : q = 5
    · rw [if_pos q5]
      have hb := lis_bit hM3 (n := c.toNat) (d := d.toNat) (by omega) (by omega)
      rw [ed, n1.1.r6 h0 h1] at hb
      have hr := hM3.h6 h0 (by omega)
      rw [n1.1.r6 h0 h1] at hr
      unfold m_lis
      rw [n1.1.1.2.2, hb]
      by_cases hz : it x_enp σ2 c.toNat (1000 + 100 * d + 9) = 0
      · rw [if_neg (fun h9 => h9.2 hz), hz]
      · rw [if_pos ⟨q5, hz⟩]; omega
    · rw [if_neg (fun h9 => q5 h9.1), if_neg q5]
      have := (bit63 ⟨d.toNat, hd6⟩).2
      simp only [ed] at this
      exact this.symm
  · have e5 : ∀ ρ, x_s5 q ρ = ρ := fun ρ => by unfold x_s5; rw [if_neg (by omega), if_neg (by omega), if_neg (by omega), if_neg (by omega), if_neg (by omega)]
    have e4 : x_s4 q σ = it x_enp (x_second (q - 96) σ2) (x_second (q - 96) σ2 4).toNat := by unfold x_s4 x_s3; rw [if_pos (by omega), hσ2]
    rw [e4, e5]
    -- the model's names end first; the class's end behind
    have m17 : Bn c σ2 (it (m_all 17 0) τ2 c.toNat) := it1 (P := fun _ τ' => Bn c σ2 τ') c.toNat k1 (fun k τ' hk g => g.upm (by omega))
    have z17 : ∀ d, 0 ≤ d → d < c → it (m_all 17 0) τ2 c.toNat (300 + (18 * d + 17)) = 0 := fun d h0 h1 => by
      have := it_all_at (w := 17) (v := 0) (τ := τ2) (d := d.toNat) c.toNat (by omega)
      rw [show ((d.toNat : Nat) : Int) = d by omega] at this
      exact this
    have m9 : it (m_all 17 0) τ2 c.toNat 9 = τ2 9 := it_all_ne _ (fun d hd => by omega)
    have key : Bn c (x_second (q - 96) σ2) (m_obey q (tlr 1 τ2 c.toNat) (tlr 2 τ2 c.toNat) (it (m_all 17 0) τ2 c.toNat)) ∧ Du c (x_second (q - 96) σ2) ∧ ∀ d, 0 ≤ d → d < c → m_obey q (tlr 1 τ2 c.toNat) (tlr 2 τ2 c.toNat) (it (m_all 17 0) τ2 c.toNat) (300 + (18 * d + 17)) = 0 := by
      unfold x_second m_obey
      rw [if_neg (by omega : ¬ (q < 9 ∨ q = 20)), if_neg (by omega : ¬ q = 9), if_neg (by omega : ¬ q = 17), if_neg (by omega : ¬ q = 21), if_neg (by omega : ¬ (q = 24 ∨ q = 25)), if_neg (by omega : ¬ q = 63), if_neg (by omega : ¬ (32 ≤ q ∧ q ≤ 62)), if_neg (by omega : ¬ (64 ≤ q ∧ q ≤ 95)), if_pos (by omega : 95 < q), m17.lat, m17.1.2.2, k1.c4]
      by_cases l5 : σ2 8 = 5
      · rw [if_pos l5, if_pos l5]
        obtain ⟨a1, a2, a3⟩ := sl_rel (q := q) hX2 m17 k2 (k4.fr (fun _ _ _ => rfl) m9) (by omega)
        exact ⟨a1, a2, fun d h0 h1 => by rw [a3 d h0 h1]; exact z17 d h0 h1⟩
      · rw [if_neg l5, if_neg l5]
        by_cases q127 : q < 127
        · rw [if_neg (by omega : ¬ q - 96 = 31), if_pos q127]
          have bit : ∀ x : Int, ∀ d, 0 ≤ d → d < c → (ev_and (ev_shr (tlr x τ2 c.toNat) d) 1 = 1 ↔ σ2 (1000 + 100 * d + 13) = x) := fun x d h0 h1 => by
            have hb := tlr_bit (x := x) (τ := τ2) (n := c.toNat) (d := d.toNat) (by omega) (by omega)
            rw [show ((d.toNat : Nat) : Int) = d by omega, k3 d h0 h1] at hb
            rw [hb]
            split
            · next h9 => exact ⟨fun _ => h9, fun _ => rfl⟩
            · next h9 => exact ⟨fun h8 => by omega, fun h8 => absurd h8 h9⟩
          obtain ⟨a1, a2, a3⟩ := as_rel (s := q - 96) m17 k2 (bit 1) (bit 2)
          exact ⟨a1, a2, fun d h0 h1 => by rw [a3 d h0 h1]; exact z17 d h0 h1⟩
        · rw [if_pos (by omega : q - 96 = 31), if_neg q127]
          exact ⟨m17, k2, z17⟩
    obtain ⟨b1, b2, b3⟩ := key
    rw [b1.c4]
    generalize hτ4 : m_obey q (tlr 1 τ2 c.toNat) (tlr 2 τ2 c.toNat) (it (m_all 17 0) τ2 c.toNat) = τ4 at b1 b3
    generalize x_second (q - 96) σ2 = σ3 at b1 b2
    have en := it1 (P := fun k σ' => Bn c σ' τ4 ∧ Du c σ' ∧ ∀ d, 0 ≤ d → d < (k : Int) → σ' (1000 + 100 * d + 13) = 0 ∧ σ' (1000 + 100 * d + 12) = 0) (f := x_enp) (σ := σ3) c.toNat ⟨b1, b2, fun d h0 h1 => by omega⟩ (by
      intro k σ' hk ⟨g, gd, gz⟩
      refine ⟨(g.upx (m := 1000 + 100 * (k : Int) + 13) (by omega)).upx (m := 1000 + 100 * (k : Int) + 12) (by omega), gd.fr ?_ (fun d h0 h1 => ?_), fun d h0 h1 => ?_⟩
      · unfold x_enp; rw [ev_up_ne (by omega), ev_up_ne (by omega)]
      · unfold x_enp; rw [ev_up_ne (by omega), ev_up_ne (by omega)]
      · unfold x_enp
        by_cases hdk : d = (k : Int)
        · rw [hdk, ev_up_eq, ev_up_ne (by omega), ev_up_eq]
          exact ⟨rfl, rfl⟩
        · rw [ev_up_ne (by omega), ev_up_ne (by omega), ev_up_ne (by omega), ev_up_ne (by omega)]
          exact gz d h0 (by omega))
    obtain ⟨d1, d2, d3⟩ := en
    refine ⟨(d1.upm (by omega)).ulat, d2.fr (ev_up_ne (by decide)) (fun d h0 h1 => ev_up_ne (by omega)), fun d h0 h1 => ?_, fun d h0 h1 => ?_⟩
    · rw [ev_up_ne (by omega), ev_up_ne (by omega), ev_up_ne (by omega), b3 d h0 h1, (d3 d h0 (by omega)).1]
    · rw [ev_up_ne (by omega), ev_up_ne (by decide), ev_up_eq, (d3 d h0 (by omega)).2, if_neg (by omega)]
      have := (bit63 ⟨d.toNat, by omega⟩).2
      rw [show (((⟨d.toNat, by omega⟩ : Fin 6) : Nat) : Int) = d by show ((d.toNat : Nat) : Int) = d; omega] at this
      exact this.symm
