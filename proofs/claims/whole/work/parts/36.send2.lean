/-! triggers, and the other commands -/
def x_t (i : Int) (σ : ev_M) : ev_M := if σ (1000 + 100 * i + 9) = 0 then σ else x_tr0 i σ
theorem btr_o {i m n : Int} {σ : ev_M} (h : ¬ dev i n) : x_btr i m σ n = σ n := by
  unfold x_btr
  split
  · rw [ev_up_ne (by omega), ev_up_ne (by omega)]
  · rw [ev_up_ne (by omega)]
theorem btr_i {i m n : Int} {σ σ' : ev_M} (h : ∀ n, dev i n → σ n = σ' n) (hn : dev i n) : x_btr i m σ n = x_btr i m σ' n := by
  unfold x_btr ev_up
  rw [h (1000 + 100 * i + 2) (by omega), h (1000 + 100 * i + 16) (by omega), h (1000 + 100 * i + 6) (by omega)]
  split <;> (show (if _ then _ else _) = (if _ then _ else _)) <;> simp only [h n hn]
theorem x_t_loc (i : Int) (i0 : 0 ≤ i) : LocX i (x_t i) := by
  constructor
  · intro σ n h1 h2 h3
    unfold x_t x_tr0
    split
    · rfl
    · rw [btr_o h1, ev_up_ne h3]
  · intro σ σ' h
    have e9 := h (1000 + 100 * i + 9) (by omega)
    have e5 := h 5 (by omega)
    unfold x_t
    rw [e9]
    by_cases hC : σ' (1000 + 100 * i + 9) = 0
    · rw [if_pos hC, if_pos hC]
      exact ⟨fun n hn => h n (Or.inl hn), by omega, by omega⟩
    · rw [if_neg hC, if_neg hC]
      unfold x_tr0
      refine ⟨fun n hn => ?_, ?_, ?_⟩
      · rw [e5]
        exact btr_i (fun k hk => by rw [ev_up_ne (by omega), ev_up_ne (by omega)]; exact h k (Or.inl hk)) hn
      · rw [btr_o (by omega), btr_o (by omega), ev_up_ne (by decide), ev_up_ne (by decide)]; omega
      · rw [btr_o (by omega), btr_o (by omega), ev_up_eq, ev_up_eq]; omega
theorem tr1_pk {i : Int} {σ : ev_M} (i0 : 0 ≤ i) : x_tr1 i σ = x_pk i (x_tr0 i σ) := by
  have e5 : x_tr0 i σ 5 = σ 5 := by unfold x_tr0; rw [btr_o (by omega), ev_up_ne (by decide)]
  have e43 : x_tr0 i σ 43 = σ 43 := by unfold x_tr0; rw [btr_o (by omega), ev_up_ne (by decide)]
  unfold x_tr1 x_pk
  rw [e5, e43]
theorem it_loc_o {F : Int → ev_M → ev_M} {m : Int} {σ : ev_M} (n : Nat) (hF : ∀ k : Nat, k < n → LocX k (F k)) (hm : ∀ k : Nat, k < n → ¬ dev k m) (h43 : m ≠ 43) (h47 : m ≠ 47) : it F σ n m = σ m := it_at' n (fun i σ hi => (hF i hi).1 σ m (hm i hi) h43 h47)
theorem ol8 {c : Int} {σ : ev_M} (hd : Du c σ) : ∀ n : Nat, (n : Int) ≤ c → it (x_ol 8) σ n = it x_pk (it x_t σ n) n
  | 0, _ => rfl
  | n + 1, hn => by
    have cm : it x_pk (x_t (n : Int) (it x_t σ n)) n = x_t (n : Int) (it x_pk (it x_t σ n) n) := it_comm n (fun k hk σ => (x_pk_loc k (by omega)).comm (x_t_loc n (by omega)) (by omega) (by omega) (by omega) σ) _
    have ih := ol8 hd n (by omega)
    have o17 : it x_pk (it x_t σ n) n (1000 + 100 * (n : Int) + 17) = σ (1000 + 100 * (n : Int) + 17) := by
      rw [it_loc_o n (fun k _ => x_pk_loc k (by omega)) (fun k hk => by omega) (by omega) (by omega), it_loc_o n (fun k _ => x_t_loc k (by omega)) (fun k hk => by omega) (by omega) (by omega)]
    have o5 : it x_pk (it x_t σ n) n 5 = σ 5 := by
      rw [it_loc_o n (fun k _ => x_pk_loc k (by omega)) (fun k hk => by omega) (by omega) (by omega), it_loc_o n (fun k _ => x_t_loc k (by omega)) (fun k hk => by omega) (by omega) (by omega)]
    show x_ol 8 (n : Int) (it (x_ol 8) σ n) = x_pk (n : Int) (it x_pk (x_t (n : Int) (it x_t σ n)) n)
    rw [cm, ih]
    generalize it x_pk (it x_t σ n) n = Y at o17 o5
    unfold x_ol x_t
    split
    · refine (if_neg ?_).symm
      have := hd.2 n (by omega) (by omega)
      rw [o17, o5]
      omega
    · show x_lst 8 (n : Int) Y = _
      unfold x_lst
      rw [if_neg (by decide), if_neg (by decide), if_neg (by decide), if_pos rfl, tr1_pk (by omega)]
theorem Bn.trig {c i : Int} {σ τ : ev_M} (h : Bn c σ τ) (h0 : 0 ≤ i) (h1 : i < c) : Bn c (x_tr0 i σ) (m_trig i τ) := by
  have h6 : i < 6 := by have := h.1.2.1; omega
  have ek := h.r0 h0 h1
  have et := h.r13 h0 h1
  have e4 := h.r4 h0 h1
  have ev : (if τ (300 + (18 * i + 13)) < 999 then τ (300 + (18 * i + 13)) + 1 else 999) = (if 999 < σ (1000 + 100 * i + 16) + 1 then 999 else σ (1000 + 100 * i + 16) + 1) := by
    rw [et]
    split <;> split <;> omega
  unfold x_tr0 x_btr m_trig
  rw [ev, h.s7, ek, h.now, e4, ev_up_comm (a := 300 + (18 * i + 13)) (b := 577) (by omega), ev_up_ne (k := 1000 + 100 * i + 2) (by omega), ev_up_ne (k := 1000 + 100 * i + 16) (by omega), ev_up_ne (k := 1000 + 100 * i + 6) (by omega)]
  split
  · exact ((h.us7).u13 h0 h6).u14 h0 h6
  · exact (h.us7).u13 h0 h6
theorem tr0_f {i d f : Int} {σ : ev_M} (i0 : 0 ≤ i) (d0 : 0 ≤ d) (f0 : 0 ≤ f) (f1 : f < 100) (hf : f ≠ 16 ∧ f ≠ 17) : x_tr0 i σ (1000 + 100 * d + f) = σ (1000 + 100 * d + f) := by
  unfold x_tr0 x_btr
  split
  · rw [ev_up_ne (by omega), ev_up_ne (by omega), ev_up_ne (by omega)]
  · rw [ev_up_ne (by omega), ev_up_ne (by omega)]
theorem m_trig_w {i d w : Int} {τ : ev_M} (d0 : 0 ≤ d) (d1 : d < 6) (w0 : 0 ≤ w) (w1 : w < 18) (hw : w ≠ 13 ∧ w ≠ 14) : m_trig i τ (300 + (18 * d + w)) = τ (300 + (18 * d + w)) := by
  unfold m_trig
  split
  · rw [ev_up_ne (by omega), ev_up_ne (by omega), ev_up_ne (by omega)]
  · rw [ev_up_ne (by omega), ev_up_ne (by omega)]
theorem trig_rel {b c : Int} {σ τ : ev_M} (hM : MI b τ) (h : SS c σ τ) : SS c (it (x_ol 8) σ c.toNat) (m_comes (it (m_tl 8 (m_lis τ)) τ c.toNat)) ∧ ∀ d, 0 ≤ d → d < c → it (x_ol 8) σ c.toNat (1000 + 100 * d + 12) = σ (1000 + 100 * d + 12) := by
  have hc := h.1.1
  have key := it2 (P := fun k σ' τ' => Bn c σ' τ' ∧ Nm c σ' τ' ∧ σ' 5 = σ 5 ∧ (∀ d, 0 ≤ d → d < c → σ' (1000 + 100 * d + 17) = -4 ∨ σ 5 ≤ σ' (1000 + 100 * d + 17)) ∧ (∀ d, 0 ≤ d → d < c → σ' (1000 + 100 * d + 9) = σ (1000 + 100 * d + 9) ∧ σ' (1000 + 100 * d + 12) = σ (1000 + 100 * d + 12) ∧ σ' (1000 + 100 * d + 6) = σ (1000 + 100 * d + 6))) (f := x_t) (g := m_tl 8 (m_lis τ)) (σ := σ) (τ := τ) c.toNat ⟨h.1, h.2.1, rfl, fun d h0 h1 => by have := h.2.2.2 d h0 h1; omega, fun d h0 h1 => ⟨rfl, rfl, rfl⟩⟩ (by
    intro k σ' τ' hk ⟨g, gn, g5, g17, gk⟩
    have k0 : 0 ≤ (k : Int) := by omega
    have k1 : (k : Int) < c := by omega
    have k6 : (k : Int) < 6 := by omega
    have hbit : ev_and (ev_shr (m_lis τ) (k : Int)) 1 = σ (1000 + 100 * (k : Int) + 9) := by
      unfold m_lis
      rw [lis_bit hM (by omega) (by omega)]
      exact h.1.r6 k0 k1
    have hr9 := hM.h6 k0 k6
    rw [h.1.r6 k0 k1] at hr9
    have hr6 := hM.h4 k0 k6
    rw [h.1.r4 k0 k1] at hr6
    unfold x_t m_tl
    rw [(gk k k0 k1).1, hbit, if_neg (show ¬ ((8 : Int) = 20) by decide)]
    by_cases hl : σ (1000 + 100 * (k : Int) + 9) = 0
    · rw [if_pos hl, if_neg (by omega)]
      exact ⟨g, gn, g5, g17, gk⟩
    · rw [if_neg hl, if_pos (by omega)]
      have e5 : x_tr0 (k : Int) σ' 5 = σ' 5 := by unfold x_tr0; rw [btr_o (by omega), ev_up_ne (by decide)]
      show Bn c (x_tr0 (k : Int) σ') (m_toL (k : Int) 8 τ') ∧ Nm c (x_tr0 (k : Int) σ') (m_toL (k : Int) 8 τ') ∧ _
      have em : m_toL (k : Int) 8 τ' = m_trig (k : Int) τ' := by unfold m_toL; rw [if_neg (by decide), if_neg (by decide), if_pos rfl]
      rw [em]
      refine ⟨g.trig k0 k1, gn.fr (fun d h0 h1 => tr0_f k0 h0 (by decide) (by decide) (by decide)) (fun d h0 h1 => m_trig_w h0 (by omega) (by decide) (by decide) (by decide)), by rw [e5]; exact g5, fun d h0 h1 => ?_, fun d h0 h1 => ?_⟩
      · by_cases hdk : d = (k : Int)
        · subst hdk
          unfold x_tr0 x_btr
          split
          · right
            rw [ev_up_eq, ev_up_ne (by omega), (gk _ k0 k1).2.2, g5]
            omega
          · rw [ev_up_ne (by omega), ev_up_ne (by omega)]
            exact g17 _ h0 h1
        · have : x_tr0 (k : Int) σ' (1000 + 100 * d + 17) = σ' (1000 + 100 * d + 17) := by
            unfold x_tr0
            rw [btr_o (by omega), ev_up_ne (by omega)]
          rw [this]
          exact g17 d h0 h1
      · rw [tr0_f k0 h0 (by decide) (by decide) (by decide), tr0_f k0 h0 (by decide) (by decide) (by decide), tr0_f k0 h0 (by decide) (by decide) (by decide)]
        exact gk d h0 h1)
  obtain ⟨kb, kn, k5, k17, kk⟩ := key
  have cr := comes_rel kb (by rw [k5]; exact h.2.2.1) (fun d h0 h1 => by rw [k5]; exact k17 d h0 h1)
  rw [ol8 h.2.2 _ (by omega)]
  refine ⟨⟨?_, kn.fr (fun d h0 h1 => it_pk_f h0 (by decide) (by decide) (by decide) _) (fun d h0 h1 => ?_), cr.2⟩, fun d h0 h1 => by rw [it_pk_f h0 (by decide) (by decide) (by decide)]; exact (kk d h0 h1).2.1⟩
  · unfold m_comes
    rw [kb.1.2.2]
    exact cr.1
  · unfold m_comes
    rw [kb.1.2.2]
    exact it_at' _ (fun i σ hi => m_cm_w (by omega) (by omega) h0 (by omega) (by decide) (by decide) (by decide))
def Z12 (c : Int) (σ σ' : ev_M) : Prop := ∀ d, 0 ≤ d → d < c → σ' (1000 + 100 * d + 12) = σ (1000 + 100 * d + 12)
/-- a loop over all, step by step -/
theorem all_rel {c : Int} {σ τ : ev_M} {f g : Int → ev_M → ev_M} (h : SS c σ τ) (hs : ∀ (k : Int) (σ' τ' : ev_M), 0 ≤ k → k < c → SS c σ' τ' → SS c (f k σ') (g k τ') ∧ Z12 c σ' (f k σ')) : SS c (it f σ c.toNat) (it g τ c.toNat) ∧ Z12 c σ (it f σ c.toNat) := by
  have hc := h.1.1
  exact it2 (P := fun k σ' τ' => SS c σ' τ' ∧ Z12 c σ σ') (f := f) (g := g) (σ := σ) (τ := τ) c.toNat ⟨h, fun _ _ _ => rfl⟩ (fun k σ' τ' hk ⟨g1, g2⟩ => by
    obtain ⟨a, b⟩ := hs k σ' τ' (by omega) (by omega) g1
    exact ⟨a, fun d h0 h1 => by rw [b d h0 h1]; exact g2 d h0 h1⟩)
theorem SS.oa17 {c k : Int} {σ τ : ev_M} (h : SS c σ τ) (h0 : 0 ≤ k) (h1 : k < c) : SS c (x_oa 17 k σ) (m_all 8 1 k τ) ∧ Z12 c σ (x_oa 17 k σ) := by
  have hc := h.1.1
  have e : x_oa 17 k σ = ev_up σ (1000 + 100 * k + 11) 1 := if_pos rfl
  rw [e]
  unfold m_all
  exact ⟨⟨h.1.u8 h0 (by omega), h.2.1.fr (fun e e0 e1 => ev_up_ne (by omega)) (fun e e0 e1 => ev_up_ne (by omega)), h.2.2.fr (ev_up_ne (by omega)) (fun e e0 e1 => ev_up_ne (by omega))⟩, fun e e0 e1 => ev_up_ne (by omega)⟩
theorem SS.oa21 {c k : Int} {σ τ : ev_M} (h : SS c σ τ) (h0 : 0 ≤ k) (h1 : k < c) : SS c (x_oa 21 k σ) (m_all 11 (-4) k τ) ∧ Z12 c σ (x_oa 21 k σ) := by
  have hc := h.1.1
  have e : x_oa 21 k σ = ev_up σ (1000 + 100 * k + 14) (-4) := by unfold x_oa; rw [if_neg (by decide), if_neg (by decide)]
  rw [e]
  unfold m_all
  exact ⟨⟨h.1.ln4 h0 (by omega), h.2.1.fr (fun e e0 e1 => ev_up_ne (by omega)) (fun e e0 e1 => ev_up_ne (by omega)), h.2.2.fr (ev_up_ne (by omega)) (fun e e0 e1 => ev_up_ne (by omega))⟩, fun e e0 e1 => ev_up_ne (by omega)⟩
theorem SS.oa20 {c k set : Int} {σ τ : ev_M} (h : SS c σ τ) (h0 : 0 ≤ k) (h1 : k < c) : SS c (x_oa 20 k σ) (m_tl 20 set k τ) ∧ Z12 c σ (x_oa 20 k σ) := by
  have hc := h.1.1
  have e : x_oa 20 k σ = x_clear k σ := by unfold x_oa; rw [if_neg (by decide), if_pos rfl]
  have e2 : m_tl 20 set k τ = m_clears k τ := if_pos rfl
  rw [e, e2]
  exact ⟨h.clear h0 (by omega), fun e e0 e1 => clear_x h0 e0 (by decide) (by decide) (by decide)⟩
theorem SS.el {c k : Int} {σ τ : ev_M} (h : SS c σ τ) (h0 : 0 ≤ k) (h1 : k < c) : SS c (x_el k σ) (m_all 6 0 k τ) ∧ Z12 c σ (x_el k σ) := by
  have hc := h.1.1
  unfold x_el m_all
  exact ⟨⟨h.1.u6 h0 (by omega), h.2.1.fr (fun e e0 e1 => ev_up_ne (by omega)) (fun e e0 e1 => ev_up_ne (by omega)), h.2.2.fr (ev_up_ne (by omega)) (fun e e0 e1 => ev_up_ne (by omega))⟩, fun e e0 e1 => ev_up_ne (by omega)⟩
theorem SS.bgl {c k : Int} {σ τ : ev_M} (h : SS c σ τ) (h0 : 0 ≤ k) (h1 : k < c) : SS c (x_bgl k σ) (ev_up (ev_up τ (300 + (18 * k + 6)) 1) (300 + (18 * k + 7)) 1) ∧ Z12 c σ (x_bgl k σ) := by
  have hc := h.1.1
  unfold x_bgl
  exact ⟨⟨(h.1.u6 h0 (by omega)).u7 h0 (by omega), h.2.1.fr (fun e e0 e1 => by rw [ev_up_ne (by omega), ev_up_ne (by omega)]) (fun e e0 e1 => by rw [ev_up_ne (by omega), ev_up_ne (by omega)]), h.2.2.fr (by rw [ev_up_ne (by omega), ev_up_ne (by omega)]) (fun e e0 e1 => by rw [ev_up_ne (by omega), ev_up_ne (by omega)])⟩, fun e e0 e1 => by rw [ev_up_ne (by omega), ev_up_ne (by omega)]⟩
theorem SS.name {c k v : Int} {σ τ : ev_M} (h : SS c σ τ) (h0 : 0 ≤ k) (h1 : k < c) : SS c (ev_up σ (1000 + 100 * k + 13) v) (ev_up τ (300 + (18 * k + 17)) v) ∧ Z12 c σ (ev_up σ (1000 + 100 * k + 13) v) := by
  have hc := h.1.1
  exact ⟨⟨(h.1.upx (m := 1000 + 100 * k + 13) (by omega)).upm (by omega), h.2.1.up h0, h.2.2.fr (ev_up_ne (by omega)) (fun e e0 e1 => ev_up_ne (by omega))⟩, fun e e0 e1 => ev_up_ne (by omega)⟩
theorem SS.cl {c k a : Int} {σ τ : ev_M} (h : SS c σ τ) (h0 : 0 ≤ k) (h1 : k < c) : SS c (x_cl a k σ) (m_addr a 1 k τ) ∧ Z12 c σ (x_cl a k σ) := by
  have h2 := (h.1.2.2.2.2.1.2 k h0 h1).2
  unfold x_cl m_addr
  rw [h.1.r1 h0 h1, h.1.r2 h0 h1]
  by_cases ha : σ (1000 + 100 * k + 3) = a
  · rw [if_pos ha, if_pos ha]
    by_cases hs : σ (1000 + 100 * k + 4) = 31
    · rw [if_pos hs, if_neg (by omega), if_pos rfl]
      exact h.bgl h0 h1
    · rw [if_neg hs, if_pos (by omega)]
      exact h.name h0 h1
  · rw [if_neg ha, if_neg ha]
    exact ⟨h, fun _ _ _ => rfl⟩
theorem SS.tk {c u : Int} {σ τ τ' : ev_M} (h : SS c σ τ) (hu : u = -4 ∨ (0 ≤ u ∧ u < c)) (e1 : ∀ n, (∀ d, 0 ≤ d → d < 6 → n ≠ 300 + (18 * d + 5)) → τ' n = τ n) (e2 : ∀ d, 0 ≤ d → d < c → τ' (300 + (18 * d + 5)) = if d = u then 1 else 0) : SS c (ev_up σ 7 u) τ' := ⟨h.1.tk hu e1 e2, h.2.1.fr (fun d h0 h1 => ev_up_ne (by omega)) (fun d h0 h1 => e1 _ (by omega)), h.2.2.fr (ev_up_ne (by decide)) (fun d h0 h1 => ev_up_ne (by omega))⟩
theorem SS.silent {c : Int} {σ τ : ev_M} (h : SS c σ τ) : SS c (ev_up σ 7 (-4)) (it (m_all 5 0) τ c.toNat) := by
  have hc := h.1.1
  refine ⟨h.1.silent, h.2.1.fr (fun d h0 h1 => ev_up_ne (by omega)) (fun d h0 h1 => it_all_ne _ (fun e he => by omega)), h.2.2.fr (ev_up_ne (by decide)) (fun d h0 h1 => ev_up_ne (by omega))⟩
theorem ct_rel {c a : Int} {σ τ : ev_M} (h : SS c σ τ) (ht : σ 7 = -4) : SS c (it (x_ct a) σ c.toNat) (it (m_addr a 2) τ c.toNat) ∧ Z12 c σ (it (x_ct a) σ c.toNat) := by
  have hc := h.1.1
  have key := it2 (P := fun k σ' τ' => SS c σ' τ' ∧ Z12 c σ σ' ∧ (σ' 7 = -4 ∨ (0 ≤ σ' 7 ∧ σ' 7 < (k : Int) ∧ σ' (1000 + 100 * σ' 7 + 3) = a ∧ σ' (1000 + 100 * σ' 7 + 4) = 31))) (f := x_ct a) (g := m_addr a 2) (σ := σ) (τ := τ) c.toNat ⟨h, fun _ _ _ => rfl, Or.inl ht⟩ (by
    intro k σ' τ' hk ⟨g, gz, gt⟩
    have k0 : 0 ≤ (k : Int) := by omega
    have k1 : (k : Int) < c := by omega
    have h2 := (g.1.2.2.2.2.1.2 k k0 k1).2
    have cf := g.1.2.2.2.2.1.1
    unfold x_ct m_addr
    rw [g.1.r1 k0 k1, g.1.r2 k0 k1]
    by_cases ha : σ' (1000 + 100 * (k : Int) + 3) = a
    · rw [if_pos ha, if_pos ha]
      by_cases hs : σ' (1000 + 100 * (k : Int) + 4) = 31
      · rw [if_pos hs, if_neg (by omega), if_neg (by decide)]
        have h7 : σ' 7 = -4 := by
          rcases gt with h9 | ⟨p1, p2, p3, p4⟩
          · exact h9
          · exact absurd p4 (cf (σ' 7) k p1 (by omega) k0 k1 (by omega) (by rw [p3, ha]))
        have tk := g.1.2.2.2.1.2
        refine ⟨g.tk (Or.inr ⟨k0, k1⟩) (fun n hn => ev_up_ne (hn k k0 (by omega))) (fun d h0 h1 => ?_), fun d h0 h1 => by rw [ev_up_ne (by omega)]; exact gz d h0 h1, Or.inr ?_⟩
        · by_cases hdk : d = (k : Int)
          · rw [hdk, ev_up_eq, if_pos rfl]
          · rw [ev_up_ne (by omega), if_neg hdk, tk d h0 h1, if_neg (by omega)]
        · rw [ev_up_eq, ev_up_ne (by omega), ev_up_ne (by omega)]
          exact ⟨k0, by omega, ha, hs⟩
      · rw [if_neg hs, if_pos (by omega)]
        obtain ⟨n1, n2⟩ := g.name (v := 2) k0 k1
        refine ⟨n1, fun d h0 h1 => by rw [n2 d h0 h1]; exact gz d h0 h1, ?_⟩
        rcases gt with h9 | ⟨p1, p2, p3, p4⟩
        · left; rw [ev_up_ne (by omega)]; exact h9
        · right
          rw [ev_up_ne (k := 7) (by omega), ev_up_ne (by omega), ev_up_ne (by omega)]
          exact ⟨p1, by omega, p3, p4⟩
    · rw [if_neg ha, if_neg ha]
      exact ⟨g, gz, by omega⟩)
  exact ⟨key.1, key.2.1⟩
theorem Bn.uchg {c v : Int} {σ τ : ev_M} (h : Bn c σ τ) (h0 : 0 ≤ v) (h1 : v < c) : Bn c (ev_up σ 6 v) (ev_up τ 5 v) := by
  obtain ⟨⟨a1, a2, a3⟩, b, s, t, f, g, i1, i2⟩ := h
  exact ⟨⟨a1, a2, by rw [ev_up_ne (by decide)]; exact a3⟩, b.up a2 (by decide) (by decide), s.fr (fun d h0 h1 => ev_up_ne (by omega)) (fun d h0 h1 => ev_up_ne (by omega)) (fun d h0 h1 => ev_up_ne (by omega)), t.fr (ev_up_ne (by decide)) (fun d h0 h1 => ev_up_ne (by omega)), f.fr (fun d h0 h1 => ev_up_ne (by omega)) (fun d h0 h1 => ev_up_ne (by omega)) (fun d h0 h1 => ev_up_ne (by omega)), g.fr (fun k hk => ev_up_ne (by omega)) (fun k h0 h1 => ev_up_ne (by omega)), by rw [ev_up_eq]; exact ⟨h0, h1⟩⟩
theorem pass_rel {c : Int} {σ τ : ev_M} (h : SS c σ τ) : SS c (x_pc σ) (m_pass τ) ∧ Z12 c σ (x_pc σ) := by
  have hc := h.1.1
  have ht := h.1.2.2.2.1
  unfold x_pc m_pass
  rw [talk_eq h.1, h.1.c4, h.1.chg]
  by_cases hC : 0 ≤ σ 7 ∧ σ 7 < c ∧ σ 7 ≠ σ 6 ∧ σ (1000 + 100 * σ 7 + 2) = 2
  · obtain ⟨c1, c2, c3, c4⟩ := hC
    rw [if_pos ⟨c1, c2, c3, c4⟩, if_pos ⟨c1, by rw [h.1.r0 c1 c2]; exact c4, c3⟩, h.1.s6]
    have e1 := h.1.uchg c1 c2
    have tk := e1.tk (u := -4) (τ' := ev_up (ev_up τ 5 (σ 7)) (300 + (18 * σ 7 + 5)) 0) (Or.inl rfl) (fun n hn => ev_up_ne (hn (σ 7) c1 (by omega))) (fun d h0 h1 => by
      by_cases hd : d = σ 7
      · rw [hd, ev_up_eq, if_neg (by omega)]
      · rw [ev_up_ne (by omega), ev_up_ne (by omega), ht.2 d h0 h1, if_neg hd, if_neg (by omega)])
    refine ⟨⟨tk.us6, h.2.1.fr (fun d h0 h1 => ?_) (fun d h0 h1 => ?_), h.2.2.fr ?_ (fun d h0 h1 => ?_)⟩, fun d h0 h1 => ?_⟩
    all_goals rw [ev_up_ne (by omega), ev_up_ne (by omega), ev_up_ne (by omega)]
  · rw [if_neg hC]
    have hC2 : ¬ (0 ≤ σ 7 ∧ τ (300 + (18 * σ 7 + 0)) = 2 ∧ σ 7 ≠ σ 6) := by
      intro ⟨p1, p2, p3⟩
      have p4 : σ 7 < c := by rcases ht.1 with h9 | h9 <;> omega
      rw [h.1.r0 p1 p4] at p2
      exact hC ⟨p1, p4, p3, p2⟩
    rw [if_neg hC2]
    exact ⟨h, fun _ _ _ => rfl⟩
