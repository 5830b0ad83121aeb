/-! a command: both sides -/
def SS (c : Int) (σ τ : ev_M) : Prop := Bn c σ τ ∧ Nm c σ τ ∧ Du c σ
theorem it_all_ne {w v k : Int} {τ : ev_M} : ∀ n : Nat, (∀ d : Nat, d < n → k ≠ 300 + (18 * (d : Int) + w)) → it (m_all w v) τ n k = τ k
  | 0, _ => rfl
  | n + 1, h => by
    show ev_up (it (m_all w v) τ n) (300 + (18 * (n : Int) + w)) v k = τ k
    rw [ev_up_ne (h n (by omega)), it_all_ne n (fun d hd => h d (by omega))]
theorem it_all_at {w v : Int} {τ : ev_M} {d : Nat} : ∀ n : Nat, d < n → it (m_all w v) τ n (300 + (18 * (d : Int) + w)) = v
  | 0, h => by omega
  | n + 1, h => by
    show ev_up (it (m_all w v) τ n) (300 + (18 * (n : Int) + w)) v (300 + (18 * (d : Int) + w)) = v
    by_cases e : d = n
    · rw [e, ev_up_eq]
    · rw [ev_up_ne (by omega), it_all_at n (by omega)]
theorem Bn.ln4 {c d : Int} {σ τ : ev_M} (h : Bn c σ τ) (h0 : 0 ≤ d) (h1 : d < 6) : Bn c (ev_up σ (1000 + 100 * d + 14) (-4)) (ev_up τ (300 + (18 * d + 11)) (-4)) := by
  obtain ⟨⟨a1, a2, a3⟩, b, s, t, f, g, i1, i2⟩ := h
  refine ⟨⟨a1, a2, by rw [ev_up_ne (by omega)]; exact a3⟩, b.up a2 (lc_11 h0 h1).1 (lc_11 h0 h1).2, ?_, t.fr (ev_up_ne (by omega)) (fun d h0 h1 => ev_up_ne (by omega)), f.fr (fun d h0 h1 => ev_up_ne (by omega)) (fun d h0 h1 => ev_up_ne (by omega)) (fun d h0 h1 => ev_up_ne (by omega)), g.fr (fun k hk => ev_up_ne (by omega)) (fun k h0 h1 => ev_up_ne (by omega)), by rw [ev_up_ne (by omega)]; exact ⟨i1, i2⟩⟩
  intro e e0 e1
  rw [ev_up_ne (k := 1000 + 100 * e + 15) (by omega), ev_up_ne (k := 300 + (18 * e + 12)) (by omega)]
  by_cases hde : e = d
  · rw [hde, ev_up_eq]
    exact ⟨Or.inl rfl, fun h9 => by omega⟩
  · rw [ev_up_ne (by omega)]
    exact s e e0 e1
theorem Bn.m12 {c d v : Int} {σ τ : ev_M} (h : Bn c σ τ) (h0 : 0 ≤ d) (h1 : d < 6) (hl : σ (1000 + 100 * d + 14) = -4) : Bn c σ (ev_up τ (300 + (18 * d + 12)) v) := by
  obtain ⟨⟨a1, a2, a3⟩, b, s, t, f, g, i1, i2⟩ := h
  refine ⟨⟨a1, a2, by rw [ev_up_ne (by omega)]; exact a3⟩, b.upm a2 (by unfold rel; omega), ?_, t.fr rfl (fun d h0 h1 => ev_up_ne (by omega)), f, g.fr (fun k hk => rfl) (fun k h0 h1 => ev_up_ne (by omega)), i1, i2⟩
  intro e e0 e1
  by_cases hde : e = d
  · rw [hde, hl]
    exact ⟨Or.inl rfl, fun h9 => by omega⟩
  · rw [ev_up_ne (by omega)]
    exact s e e0 e1
theorem Bn.ln {c d v u : Int} {σ τ : ev_M} (h : Bn c σ τ) (h0 : 0 ≤ d) (h1 : d < 6) (hv : 0 ≤ v) : Bn c (ev_up (ev_up σ (1000 + 100 * d + 14) v) (1000 + 100 * d + 15) u) (ev_up (ev_up τ (300 + (18 * d + 11)) v) (300 + (18 * d + 12)) u) := by
  obtain ⟨⟨a1, a2, a3⟩, b, s, t, f, g, i1, i2⟩ := h
  have ex : ∀ k, k ≠ 1000 + 100 * d + 14 → k ≠ 1000 + 100 * d + 15 → ev_up (ev_up σ (1000 + 100 * d + 14) v) (1000 + 100 * d + 15) u k = σ k := fun k h1 h2 => by rw [ev_up_ne h2, ev_up_ne h1]
  have em : ∀ k, k ≠ 300 + (18 * d + 11) → k ≠ 300 + (18 * d + 12) → ev_up (ev_up τ (300 + (18 * d + 11)) v) (300 + (18 * d + 12)) u k = τ k := fun k h1 h2 => by rw [ev_up_ne h2, ev_up_ne h1]
  refine ⟨⟨a1, a2, by rw [em 2 (by omega) (by omega)]; exact a3⟩, ((b.up a2 (lc_11 h0 h1).1 (lc_11 h0 h1).2).upx a2 (by unfold xo; omega)).upm a2 (by unfold rel; omega), ?_, t.fr (ex 7 (by omega) (by omega)) (fun e h0 h1 => em _ (by omega) (by omega)), f.fr (fun d h0 h1 => ex _ (by omega) (by omega)) (fun d h0 h1 => ex _ (by omega) (by omega)) (fun d h0 h1 => ex _ (by omega) (by omega)), g.fr (fun k hk => ex _ (by omega) (by omega)) (fun k h0 h1 => em _ (by omega) (by omega)), by rw [ex 6 (by omega) (by omega)]; exact ⟨i1, i2⟩⟩
  intro e e0 e1
  by_cases hde : e = d
  · rw [hde, ev_up_ne (k := 1000 + 100 * d + 14) (by omega), ev_up_eq, ev_up_eq, ev_up_eq]
    exact ⟨Or.inr hv, fun _ => rfl⟩
  · rw [ex _ (by omega) (by omega), ex _ (by omega) (by omega), em _ (by omega) (by omega)]
    exact s e e0 e1
theorem Bn.tk {c u : Int} {σ τ τ' : ev_M} (h : Bn c σ τ) (hu : u = -4 ∨ (0 ≤ u ∧ u < c)) (e1 : ∀ n, (∀ d, 0 ≤ d → d < 6 → n ≠ 300 + (18 * d + 5)) → τ' n = τ n) (e2 : ∀ d, 0 ≤ d → d < c → τ' (300 + (18 * d + 5)) = if d = u then 1 else 0) : Bn c (ev_up σ 7 u) τ' := by
  obtain ⟨⟨a1, a2, a3⟩, b, s, t, f, g, i1, i2⟩ := h
  refine ⟨⟨a1, a2, by rw [e1 2 (by omega)]; exact a3⟩, ?_, s.fr (fun d h0 h1 => ev_up_ne (by omega)) (fun d h0 h1 => ev_up_ne (by omega)) (fun d h0 h1 => e1 _ (by omega)), ⟨by rw [ev_up_eq]; exact hu, fun d h0 h1 => by rw [ev_up_eq]; exact e2 d h0 h1⟩, f.fr (fun d h0 h1 => ev_up_ne (by omega)) (fun d h0 h1 => ev_up_ne (by omega)) (fun d h0 h1 => ev_up_ne (by omega)), g.fr (fun k hk => ev_up_ne (by omega)) (fun k h0 h1 => e1 _ (by omega)), by rw [ev_up_ne (by omega)]; exact ⟨i1, i2⟩⟩
  intro n hn
  have h6 := rel6 a2 hn
  rw [e1 n (fun d h0 h1 h9 => by unfold rel at h6; omega)]
  exact (b.upx a2 (by unfold xo; omega)) n hn
theorem Bn.silent {c : Int} {σ τ : ev_M} (h : Bn c σ τ) : Bn c (ev_up σ 7 (-4)) (it (m_all 5 0) τ c.toNat) := by
  have hc := h.1
  refine h.tk (Or.inl rfl) (fun n hn => it_all_ne _ (fun d hd => hn d (by omega) (by omega))) (fun d h0 h1 => ?_)
  have := it_all_at (w := 5) (v := 0) (τ := τ) (d := d.toNat) c.toNat (by omega)
  rw [show ((d.toNat : Nat) : Int) = d by omega] at this
  rw [this, if_neg (by omega)]
theorem talk_eq {c : Int} {σ τ : ev_M} (h : Bn c σ τ) : m_talk τ = σ 7 := by
  have ht := h.2.2.2.1
  have hc := h.1
  have key : ∀ k : Nat, (k : Int) ≤ c → tkf τ k = if 0 ≤ σ 7 ∧ σ 7 < (k : Int) then σ 7 else -4 := by
    intro k
    induction k with
    | zero => intro _; show (-4 : Int) = _; rw [if_neg (by omega)]
    | succ k ih =>
      intro hk
      have ihk := ih (by omega)
      have hd := ht.2 k (by omega) (by omega)
      show (if tkf τ k = -4 then (if τ (300 + (18 * (k : Int) + 5)) = 1 then (k : Int) else -4) else tkf τ k) = _
      rw [ihk, hd]
      by_cases h1 : 0 ≤ σ 7 ∧ σ 7 < (k : Int)
      · rw [if_pos h1, if_neg (by omega), if_pos (by omega)]
      · rw [if_neg h1, if_pos rfl]
        by_cases h2 : (k : Int) = σ 7
        · rw [if_pos h2, if_pos rfl, if_pos (by omega), h2]
        · rw [if_neg h2, if_neg (by decide), if_neg (by omega)]
  unfold m_talk
  rw [hc.2.2, key _ (by omega)]
  rcases ht.1 with h1 | h1
  · rw [if_neg (by omega), h1]
  · rw [if_pos (by omega)]
theorem Nm.up {c d v : Int} {σ τ : ev_M} (h : Nm c σ τ) (h0 : 0 ≤ d) : Nm c (ev_up σ (1000 + 100 * d + 13) v) (ev_up τ (300 + (18 * d + 17)) v) := by
  intro e e0 e1
  by_cases hde : e = d
  · rw [hde, ev_up_eq, ev_up_eq]
  · rw [ev_up_ne (by omega), ev_up_ne (by omega)]
    exact h e e0 e1
theorem enp_rel {c : Int} {σ τ : ev_M} (h : Bn c σ τ) (hd : Du c σ) : SS c (it x_enp σ c.toNat) (it (m_all 17 0) τ c.toNat) ∧ ∀ d, 0 ≤ d → d < c → it x_enp σ c.toNat (1000 + 100 * d + 12) = 0 := by
  have hc := h.1
  have key := it2 (P := fun k σ' τ' => Bn c σ' τ' ∧ Du c σ' ∧ ∀ d, 0 ≤ d → d < (k : Int) → τ' (300 + (18 * d + 17)) = 0 ∧ σ' (1000 + 100 * d + 13) = 0 ∧ σ' (1000 + 100 * d + 12) = 0) (f := x_enp) (g := m_all 17 0) (σ := σ) (τ := τ) c.toNat ⟨h, hd, fun d h0 h1 => by omega⟩ (by
    intro k σ' τ' hk ⟨g, gd, gz⟩
    refine ⟨((g.upx (m := 1000 + 100 * (k : Int) + 13) (by omega)).upx (m := 1000 + 100 * (k : Int) + 12) (by omega)).upm (by omega), gd.fr ?_ (fun d h0 h1 => ?_), fun d h0 h1 => ?_⟩
    · unfold x_enp; rw [ev_up_ne (by omega), ev_up_ne (by omega)]
    · unfold x_enp; rw [ev_up_ne (by omega), ev_up_ne (by omega)]
    · unfold x_enp m_all
      by_cases hdk : d = (k : Int)
      · rw [hdk, ev_up_eq, ev_up_eq, ev_up_ne (by omega), ev_up_eq]
        exact ⟨rfl, rfl, rfl⟩
      · rw [ev_up_ne (by omega), ev_up_ne (by omega), ev_up_ne (by omega), ev_up_ne (by omega), ev_up_ne (by omega)]
        exact gz d h0 (by omega))
  refine ⟨⟨key.1, fun d h0 h1 => ?_, key.2.1⟩, fun d h0 h1 => (key.2.2 d h0 (by omega)).2.2⟩
  have := key.2.2 d h0 (by omega)
  rw [this.1, this.2.1]
theorem ev_up_comm {σ : ev_M} {a b x y : Int} (h : a ≠ b) : ev_up (ev_up σ a x) b y = ev_up (ev_up σ b y) a x := by
  funext n
  by_cases h1 : n = a
  · rw [h1, ev_up_ne h, ev_up_eq, ev_up_eq]
  · by_cases h2 : n = b
    · rw [h2, ev_up_eq, ev_up_ne (Ne.symm h), ev_up_eq]
    · rw [ev_up_ne h2, ev_up_ne h1, ev_up_ne h1, ev_up_ne h2]
theorem Bn.clear {c d : Int} {σ τ : ev_M} (h : Bn c σ τ) (h0 : 0 ≤ d) (h1 : d < 6) : Bn c (x_clear d σ) (m_clears d τ) := by
  have e : m_clears d τ = ev_up (ev_up (ev_up (ev_up (ev_up τ (300 + (18 * d + 15)) 0) (300 + (18 * d + 16)) 0) (300 + (18 * d + 9)) 0) (300 + (18 * d + 10)) 0) (300 + (18 * d + 14)) (-4) := by
    unfold m_clears
    funext n
    unfold ev_up
    repeat' split
    all_goals first | rfl | omega
  rw [e]
  unfold x_clear
  exact ((((h.u15 h0 h1).u16 h0 h1).u9 h0 h1).u10 h0 h1).u14 h0 h1
theorem clear_x {d e f : Int} {σ : ev_M} (h0 : 0 ≤ d) (e0 : 0 ≤ e) (f0 : 0 ≤ f) (f1 : f < 20) (hf : f ≠ 7 ∧ f ≠ 8 ∧ f ≠ 17) : x_clear d σ (1000 + 100 * e + f) = σ (1000 + 100 * e + f) := by
  unfold x_clear
  rw [ev_up_ne (by omega), ev_up_ne (by omega), ev_up_ne (by omega), ev_up_ne (by omega), ev_up_ne (by omega)]
theorem clear_m {d e w : Int} {τ : ev_M} (w0 : 0 ≤ w) (w1 : w < 18) (hw : w ≠ 9 ∧ w ≠ 10 ∧ w ≠ 14 ∧ w ≠ 15 ∧ w ≠ 16) : m_clears d τ (300 + (18 * e + w)) = τ (300 + (18 * e + w)) := by
  unfold m_clears
  rw [ev_up_ne (by omega), ev_up_ne (by omega), ev_up_ne (by omega), ev_up_ne (by omega), ev_up_ne (by omega)]
theorem clear_d {c d : Int} {σ : ev_M} (h : Du c σ) (h0 : 0 ≤ d) : Du c (x_clear d σ) := by
  have e5 : x_clear d σ 5 = σ 5 := by
    unfold x_clear
    rw [ev_up_ne (by omega), ev_up_ne (by omega), ev_up_ne (by omega), ev_up_ne (by omega), ev_up_ne (by omega)]
  refine ⟨by rw [e5]; exact h.1, fun e e0 e1 => ?_⟩
  rw [e5]
  by_cases hde : e = d
  · left; rw [hde]; exact ev_up_eq
  · have : x_clear d σ (1000 + 100 * e + 17) = σ (1000 + 100 * e + 17) := by
      unfold x_clear
      rw [ev_up_ne (by omega), ev_up_ne (by omega), ev_up_ne (by omega), ev_up_ne (by omega), ev_up_ne (by omega)]
    rw [this]
    exact h.2 e e0 e1
theorem SS.clear {c d : Int} {σ τ : ev_M} (h : SS c σ τ) (h0 : 0 ≤ d) (h1 : d < 6) : SS c (x_clear d σ) (m_clears d τ) := ⟨h.1.clear h0 h1, h.2.1.fr (fun e e0 e1 => clear_x h0 e0 (by decide) (by decide) (by decide)) (fun e e0 e1 => clear_m (by decide) (by decide) (by decide)), clear_d h.2.2 h0⟩
/-- what stays while a loop goes over listeners: who listens, who is prepared -/
def Ks (c : Int) (σ σ' : ev_M) : Prop := ∀ d, 0 ≤ d → d < c → σ' (1000 + 100 * d + 9) = σ (1000 + 100 * d + 9) ∧ σ' (1000 + 100 * d + 12) = σ (1000 + 100 * d + 12)
theorem comes_idle {c : Int} {σ τ : ev_M} (h : SS c σ τ) : SS c σ (m_comes τ) := by
  have hc := h.1.1
  have := comes_rel h.1 h.2.2.1 (fun d h0 h1 => by have := h.2.2.2 d h0 h1; omega)
  rw [pk_idle h.2.2 _ (by omega)] at this
  unfold m_comes
  rw [hc.2.2]
  refine ⟨this.1, h.2.1.fr (fun d h0 h1 => rfl) (fun d h0 h1 => ?_), this.2⟩
  exact it_at' _ (fun i σ hi => m_cm_w (by omega) (by omega) h0 (by omega) (by decide) (by decide) (by decide))
/-- go to local, clear, prepare (and what says nothing) -/
theorem lst_rel {b c q : Int} {σ τ : ev_M} (hM : MI b τ) (h : SS c σ τ) (hq : q ≠ 8) (hq2 : q ≠ 20) : SS c (it (x_ol q) σ c.toNat) (it (m_tl q (m_lis τ)) τ c.toNat) ∧ ∀ d, 0 ≤ d → d < c → it (x_ol q) σ c.toNat (1000 + 100 * d + 12) = if q = 5 ∧ σ (1000 + 100 * d + 9) ≠ 0 then 1 else σ (1000 + 100 * d + 12) := by
  have hc := h.1.1
  have key := it2 (P := fun k σ' τ' => SS c σ' τ' ∧ (∀ d, 0 ≤ d → d < c → σ' (1000 + 100 * d + 9) = σ (1000 + 100 * d + 9)) ∧ (∀ d, 0 ≤ d → d < c → σ' (1000 + 100 * d + 12) = if d < (k : Int) ∧ q = 5 ∧ σ (1000 + 100 * d + 9) ≠ 0 then 1 else σ (1000 + 100 * d + 12))) (f := x_ol q) (g := m_tl q (m_lis τ)) (σ := σ) (τ := τ) c.toNat ⟨h, fun _ _ _ => rfl, fun d h0 h1 => by rw [if_neg (by omega)]⟩ (by
    intro k σ' τ' hk ⟨g, g9, g12⟩
    have k0 : 0 ≤ (k : Int) := by omega
    have k1 : (k : Int) < c := by omega
    have k6 : (k : Int) < 6 := by omega
    have hbit : ev_and (ev_shr (m_lis τ) (k : Int)) 1 = σ (1000 + 100 * (k : Int) + 9) := by
      unfold m_lis
      rw [lis_bit hM (by omega) (by omega)]
      exact h.1.r6 k0 k1
    have hr9 := hM.h6 k0 k6
    rw [h.1.r6 k0 k1] at hr9
    unfold x_ol m_tl
    rw [g9 k k0 k1, hbit, if_neg hq2]
    by_cases hl : σ (1000 + 100 * (k : Int) + 9) = 0
    · rw [if_pos hl, if_neg (by omega)]
      refine ⟨g, g9, fun d h0 h1 => ?_⟩
      rw [g12 d h0 h1]
      by_cases hdk : d = (k : Int)
      · rw [hdk, if_neg (by omega), if_neg (by omega)]
      · by_cases hz : d < (k : Int) ∧ q = 5 ∧ σ (1000 + 100 * d + 9) ≠ 0
        · rw [if_pos hz, if_pos (by omega)]
        · rw [if_neg hz, if_neg (by omega)]
    · rw [if_neg hl, if_pos (by omega)]
      have hz : ∀ d, 0 ≤ d → d < c → q ≠ 5 → (if d < (k : Int) ∧ q = 5 ∧ σ (1000 + 100 * d + 9) ≠ 0 then (1 : Int) else σ (1000 + 100 * d + 12)) = if d < ((k + 1 : Nat) : Int) ∧ q = 5 ∧ σ (1000 + 100 * d + 9) ≠ 0 then (1 : Int) else σ (1000 + 100 * d + 12) := fun d h0 h1 h5 => by rw [if_neg (by omega), if_neg (by omega)]
      unfold x_lst m_toL
      by_cases q1 : q = 1
      · rw [if_pos q1, if_pos q1]
        refine ⟨⟨g.1.u7 k0 k6, g.2.1.fr (fun e e0 e1 => ev_up_ne (by omega)) (fun e e0 e1 => ev_up_ne (by omega)), g.2.2.fr (ev_up_ne (by omega)) (fun e e0 e1 => ev_up_ne (by omega))⟩, fun d h0 h1 => ?_, fun d h0 h1 => ?_⟩
        · rw [ev_up_ne (by omega)]; exact g9 d h0 h1
        · rw [ev_up_ne (by omega), g12 d h0 h1]; exact hz d h0 h1 (by omega)
      · rw [if_neg q1, if_neg q1]
        by_cases q4 : q = 4
        · rw [if_pos q4, if_pos q4]
          refine ⟨g.clear k0 k6, fun d h0 h1 => ?_, fun d h0 h1 => ?_⟩
          · rw [clear_x k0 h0 (by decide) (by decide) (by decide)]; exact g9 d h0 h1
          · rw [clear_x k0 h0 (by decide) (by decide) (by decide), g12 d h0 h1]; exact hz d h0 h1 (by omega)
        · rw [if_neg q4, if_neg q4, if_neg hq, if_neg hq]
          by_cases q5 : q = 5
          · rw [if_pos q5]
            refine ⟨⟨g.1.upx (by omega), g.2.1.fr (fun e e0 e1 => ev_up_ne (by omega)) (fun e e0 e1 => rfl), g.2.2.fr (ev_up_ne (by omega)) (fun e e0 e1 => ev_up_ne (by omega))⟩, fun d h0 h1 => ?_, fun d h0 h1 => ?_⟩
            · rw [ev_up_ne (by omega)]; exact g9 d h0 h1
            · by_cases hdk : d = (k : Int)
              · rw [hdk, ev_up_eq, if_pos ⟨by omega, q5, hl⟩]
              · rw [ev_up_ne (by omega), g12 d h0 h1]
                by_cases hz : d < (k : Int) ∧ q = 5 ∧ σ (1000 + 100 * d + 9) ≠ 0
                · rw [if_pos hz, if_pos (by omega)]
                · rw [if_neg hz, if_neg (by omega)]
          · rw [if_neg q5]
            exact ⟨g, g9, fun d h0 h1 => by rw [g12 d h0 h1]; exact hz d h0 h1 q5⟩)
  refine ⟨key.1, fun d h0 h1 => ?_⟩
  rw [key.2.2 d h0 h1]
  by_cases hz : q = 5 ∧ σ (1000 + 100 * d + 9) ≠ 0
  · rw [if_pos hz, if_pos ⟨by omega, hz⟩]
  · rw [if_neg hz, if_neg (by omega)]
