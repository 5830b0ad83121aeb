/-! ticks: the class's one pass and the model's many -/
abbrev dev (i n : Int) : Prop := 1000 + 100 * i ≤ n ∧ n < 1100 + 100 * i
def LocX (i : Int) (f : ev_M → ev_M) : Prop := (∀ σ n, ¬ dev i n → n ≠ 43 → n ≠ 47 → f σ n = σ n) ∧ (∀ σ σ' : ev_M, (∀ n, dev i n ∨ n = 5 → σ n = σ' n) → (∀ n, dev i n → f σ n = f σ' n) ∧ f σ 43 - σ 43 = f σ' 43 - σ' 43 ∧ f σ 47 - σ 47 = f σ' 47 - σ' 47)
theorem LocX.comm {i j : Int} {f g : ev_M → ev_M} (hi : LocX i f) (hj : LocX j g) (hij : i ≠ j) (i0 : 0 ≤ i) (j0 : 0 ≤ j) (σ : ev_M) : f (g σ) = g (f σ) := by
  funext n
  obtain ⟨a1, a2, a3⟩ := hi.2 (g σ) σ (fun n hn => hj.1 σ n (by omega) (by omega) (by omega))
  obtain ⟨b1, b2, b3⟩ := hj.2 (f σ) σ (fun n hn => hi.1 σ n (by omega) (by omega) (by omega))
  by_cases h1 : dev i n
  · rw [a1 n h1, hj.1 (f σ) n (by omega) (by omega) (by omega)]
  · by_cases h2 : dev j n
    · rw [b1 n h2, hi.1 (g σ) n (by omega) (by omega) (by omega)]
    · by_cases h3 : n = 43
      · subst h3; omega
      · by_cases h4 : n = 47
        · subst h4; omega
        · rw [hi.1 (g σ) n h1 h3 h4, hj.1 σ n h2 h3 h4, hj.1 (f σ) n h2 h3 h4, hi.1 σ n h1 h3 h4]
theorem it_comm {F : Int → ev_M → ev_M} {g : ev_M → ev_M} : ∀ (n : Nat), (∀ k : Nat, k < n → ∀ σ, F (k : Int) (g σ) = g (F (k : Int) σ)) → ∀ σ, it F (g σ) n = g (it F σ n)
  | 0, _, _ => rfl
  | n + 1, h, σ => by
    show F (n : Int) (it F (g σ) n) = g (F (n : Int) (it F σ n))
    rw [it_comm n (fun k hk => h k (by omega)) σ, h n (by omega)]
theorem come_o {i n : Int} {σ : ev_M} (h : ¬ dev i n) : x_come i σ n = σ n := by
  unfold x_come
  rw [ev_up_ne (by omega), ev_up_ne (by omega), ev_up_ne (by omega), ev_up_ne (by omega), ev_up_ne (by omega), ev_up_ne (by omega)]
theorem come_i {i n : Int} {σ σ' : ev_M} (h : ∀ n, dev i n → σ n = σ' n) (hn : dev i n) : x_come i σ n = x_come i σ' n := by
  have e : x_rdg i σ = x_rdg i σ' := by unfold x_rdg; rw [h (1000 + 100 * i + 16) (by omega), h (1000 + 100 * i + 3) (by omega)]
  unfold x_come ev_up
  rw [e, h n hn]
theorem x_pk_loc (i : Int) (i0 : 0 ≤ i) : LocX i (x_pk i) := by
  constructor
  · intro σ n h1 h2 h3
    unfold x_pk
    split
    · rw [ev_up_ne h2, come_o h1]
    · rfl
  · intro σ σ' h
    have e17 := h (1000 + 100 * i + 17) (by omega)
    have e5 := h 5 (by omega)
    have hc : (σ (1000 + 100 * i + 17) ≠ -4 ∧ σ (1000 + 100 * i + 17) ≤ σ 5) ↔ (σ' (1000 + 100 * i + 17) ≠ -4 ∧ σ' (1000 + 100 * i + 17) ≤ σ' 5) := by rw [e17, e5]
    unfold x_pk
    by_cases hC : σ (1000 + 100 * i + 17) ≠ -4 ∧ σ (1000 + 100 * i + 17) ≤ σ 5
    · rw [if_pos hC, if_pos (hc.mp hC)]
      refine ⟨fun n hn => ?_, ?_, ?_⟩
      · rw [ev_up_ne (by omega), ev_up_ne (by omega), come_i (fun n hn => h n (Or.inl hn)) hn]
      · rw [ev_up_eq, ev_up_eq]; omega
      · rw [ev_up_ne (by omega), ev_up_ne (by omega), come_o (by omega), come_o (by omega)]; omega
    · rw [if_neg hC, if_neg (fun h9 => hC (hc.mpr h9))]
      exact ⟨fun n hn => h n (Or.inl hn), by omega, by omega⟩
theorem x_pk_abs {i t : Int} {σ : ev_M} (i0 : 0 ≤ i) (ht : σ 5 ≤ t) : x_pk i (ev_up (x_pk i σ) 5 t) = x_pk i (ev_up σ 5 t) := by
  by_cases hC : σ (1000 + 100 * i + 17) ≠ -4 ∧ σ (1000 + 100 * i + 17) ≤ σ 5
  · have e1 : x_pk i σ = ev_up (x_come i σ) 43 (σ 43 + 1) := if_pos hC
    have e17 : x_come i σ (1000 + 100 * i + 17) = -4 := ev_up_eq
    have e2 : x_pk i (ev_up (ev_up (x_come i σ) 43 (σ 43 + 1)) 5 t) = ev_up (ev_up (x_come i σ) 43 (σ 43 + 1)) 5 t := by
      refine if_neg ?_
      rw [ev_up_ne (by omega), ev_up_ne (by omega), e17]
      omega
    have e3 : x_pk i (ev_up σ 5 t) = ev_up (x_come i (ev_up σ 5 t)) 43 (σ 43 + 1) := by
      have : x_pk i (ev_up σ 5 t) = ev_up (x_come i (ev_up σ 5 t)) 43 (ev_up σ 5 t 43 + 1) := by
        refine if_pos ?_
        rw [ev_up_ne (by omega), ev_up_eq]
        omega
      rw [this, ev_up_ne (by omega)]
    rw [e1, e2, e3]
    funext n
    by_cases h43 : n = 43
    · rw [h43, ev_up_ne (by omega), ev_up_eq, ev_up_eq]
    · rw [ev_up_ne (k := n) (n := 43) (σ := x_come i (ev_up σ 5 t)) h43]
      by_cases hn : dev i n
      · rw [ev_up_ne (by omega), ev_up_ne h43]
        exact come_i (fun k hk => (ev_up_ne (by omega)).symm) hn
      · rw [come_o hn]
        by_cases h5 : n = 5
        · rw [h5, ev_up_eq, ev_up_eq]
        · rw [ev_up_ne h5, ev_up_ne h43, ev_up_ne h5, come_o hn]
  · rw [show x_pk i σ = σ from if_neg hC]
theorem it_pk_o {n : Int} {ρ : ev_M} (hn : n < 1000) (h43 : n ≠ 43) (h47 : n ≠ 47) (k : Nat) : it x_pk ρ k n = ρ n := it_at' k (fun i σ hi => (x_pk_loc i (by omega)).1 σ n (by omega) h43 h47)
theorem it_pk_abs {t : Int} {ρ : ev_M} (ht : ρ 5 ≤ t) : ∀ n : Nat, it x_pk (ev_up (it x_pk ρ n) 5 t) n = it x_pk (ev_up ρ 5 t) n
  | 0 => rfl
  | n + 1 => by
    have cm : ∀ X, it x_pk (x_pk (n : Int) X) n = x_pk (n : Int) (it x_pk X n) := it_comm n (fun k hk σ => (x_pk_loc k (by omega)).comm (x_pk_loc n (by omega)) (by omega) (by omega) (by omega) σ)
    show x_pk (n : Int) (it x_pk (ev_up (x_pk (n : Int) (it x_pk ρ n)) 5 t) n) = x_pk (n : Int) (it x_pk (ev_up ρ 5 t) n)
    rw [← cm, x_pk_abs (by omega) (by rw [it_pk_o (by omega) (by omega) (by omega)]; exact ht), cm, it_pk_abs ht n]
theorem x_pass_add {a : Int} {σ : ev_M} : x_pass 1 (x_pass a σ) = x_pass (a + 1) σ := by
  have e4 : x_pass a σ 4 = σ 4 := by unfold x_pass; rw [it_pk_o (by omega) (by omega) (by omega), ev_up_ne (by omega)]
  have e5 : x_pass a σ 5 = σ 5 + a := by unfold x_pass; rw [it_pk_o (by omega) (by omega) (by omega), ev_up_eq]
  show it x_pk (ev_up (x_pass a σ) 5 (x_pass a σ 5 + 1)) (x_pass a σ 4).toNat = it x_pk (ev_up σ 5 (σ 5 + (a + 1))) (σ 4).toNat
  rw [e4, e5]
  unfold x_pass
  rw [it_pk_abs (by rw [ev_up_eq]; omega)]
  congr 1
  funext n
  by_cases h : n = 5
  · rw [h, ev_up_eq, ev_up_eq]; omega
  · rw [ev_up_ne h, ev_up_ne h, ev_up_ne h]
theorem Bn.come {c i : Int} {σ τ : ev_M} (h : Bn c σ τ) (h0 : 0 ≤ i) (h1 : i < c) : Bn c (ev_up (x_come i σ) 43 (σ 43 + 1)) (ev_up (ev_up (ev_up (ev_up (ev_up (ev_up (ev_up τ (420 + 24 * i) (48 + m_rdg i τ / 10)) (420 + (24 * i + 1)) (48 + m_rdg i τ % 10)) (300 + (18 * i + 15)) 2) (300 + (18 * i + 9)) 16) (300 + (18 * i + 10)) 1) (300 + (18 * i + 14)) (-4)) 573 (τ 573 + 1)) := by
  have h6 : i < 6 := by have := h.1.2.1; omega
  have e : m_rdg i τ = x_rdg i σ := by unfold m_rdg x_rdg; rw [h.r13 h0 h1, h.r1 h0 h1]
  rw [e, h.s3]
  unfold x_come
  exact ((((((h.uout h0 h6 (j := 0) (by decide) (by decide) (by omega) (by omega)).uout h0 h6 (j := 1) (by decide) (by decide) (by omega) (by omega)).u15 h0 h6).u9 h0 h6).u10 h0 h6).u14 h0 h6).us3
theorem comes_rel {c : Int} {σ τ : ev_M} (h : Bn c σ τ) (h5 : 0 ≤ σ 5) (hd : ∀ d, 0 ≤ d → d < c → σ (1000 + 100 * d + 17) = -4 ∨ σ 5 ≤ σ (1000 + 100 * d + 17)) : Bn c (it x_pk σ c.toNat) (it m_cm τ c.toNat) ∧ Du c (it x_pk σ c.toNat) := by
  have key := it2 (P := fun k σ' τ' => Bn c σ' τ' ∧ 0 ≤ σ' 5 ∧ (∀ d, 0 ≤ d → d < c → d < (k : Int) → σ' (1000 + 100 * d + 17) = -4 ∨ σ' 5 < σ' (1000 + 100 * d + 17)) ∧ (∀ d, (k : Int) ≤ d → d < c → σ' (1000 + 100 * d + 17) = -4 ∨ σ' 5 ≤ σ' (1000 + 100 * d + 17))) (f := x_pk) (g := m_cm) (σ := σ) (τ := τ) c.toNat ⟨h, h5, fun d h0 h1 h2 => by omega, fun d h0 h1 => hd d (by omega) h1⟩ (by
    intro k σ' τ' hk ⟨g, g5, gl, gr⟩
    have k0 : 0 ≤ (k : Int) := by omega
    have k1 : (k : Int) < c := by omega
    have hk17 := gr k (by omega) k1
    have r14 := g.r14 k0 k1
    have now := g.now
    by_cases hC : σ' (1000 + 100 * (k : Int) + 17) ≠ -4 ∧ σ' (1000 + 100 * (k : Int) + 17) ≤ σ' 5
    · have e1 : x_pk (k : Int) σ' = ev_up (x_come k σ') 43 (σ' 43 + 1) := if_pos hC
      have e2 : τ' (300 + (18 * (k : Int) + 14)) = τ' 7 := by rw [r14, now]; omega
      have e5 : ev_up (x_come k σ') 43 (σ' 43 + 1) 5 = σ' 5 := by rw [ev_up_ne (by omega), come_o (by omega)]
      have eo : ∀ d, d ≠ (k : Int) → 0 ≤ d → ev_up (x_come k σ') 43 (σ' 43 + 1) (1000 + 100 * d + 17) = σ' (1000 + 100 * d + 17) := fun d hd _ => by rw [ev_up_ne (by omega), come_o (by omega)]
      rw [e1]
      unfold m_cm
      rw [if_pos e2]
      refine ⟨g.come k0 k1, by rw [e5]; exact g5, fun d h0 h1 h2 => ?_, fun d h0 h1 => ?_⟩
      · by_cases hdk : d = (k : Int)
        · left; rw [hdk, ev_up_ne (by omega)]; exact ev_up_eq
        · rw [e5, eo d hdk h0]; exact gl d h0 h1 (by omega)
      · rw [e5, eo d (by omega) (by omega)]; exact gr d (by omega) h1
    · have e1 : x_pk (k : Int) σ' = σ' := if_neg hC
      have e2 : m_cm (k : Int) τ' = τ' := if_neg (by rw [r14, now]; omega)
      rw [e1, e2]
      refine ⟨g, g5, fun d h0 h1 h2 => ?_, fun d h0 h1 => gr d (by omega) h1⟩
      by_cases hdk : d = (k : Int)
      · rw [hdk]; omega
      · exact gl d h0 h1 (by omega))
  exact ⟨key.1, key.2.1, fun d h0 h1 => key.2.2.1 d h0 h1 (by omega)⟩
theorem tick1_rel {c : Int} {σ τ : ev_M} (h : Bn c σ τ) (hd : Du c σ) : Bn c (x_pass 1 σ) (m_tick1 τ) ∧ Du c (x_pass 1 σ) := by
  unfold x_pass m_tick1 m_comes
  rw [h.now, ev_up_ne (by omega), h.1.2.2, h.c4]
  refine comes_rel h.unow (by rw [ev_up_eq]; have := hd.1; omega) (fun d h0 h1 => ?_)
  rw [ev_up_eq, ev_up_ne (by omega)]
  have := hd.2 d h0 h1
  omega
theorem pk_idle {c : Int} {σ : ev_M} (hd : Du c σ) : ∀ n : Nat, (n : Int) ≤ c → it x_pk σ n = σ
  | 0, _ => rfl
  | n + 1, h => by
    show x_pk (n : Int) (it x_pk σ n) = σ
    rw [pk_idle hd n (by omega)]
    refine if_neg ?_
    have := hd.2 n (by omega) (by omega)
    omega
theorem ticks_rel {c : Int} {σ τ : ev_M} (h : Bn c σ τ) (hd : Du c σ) : ∀ k : Nat, Bn c (x_pass (k : Int) σ) (m_ticks τ k) ∧ Du c (x_pass (k : Int) σ)
  | 0 => by
    have e : x_pass ((0 : Nat) : Int) σ = σ := by
      unfold x_pass
      have : ev_up σ 5 (σ 5 + ((0 : Nat) : Int)) = σ := by
        funext n
        by_cases hn : n = 5
        · rw [hn, ev_up_eq]; omega
        · rw [ev_up_ne hn]
      rw [this]
      exact pk_idle hd _ (by rw [h.c4]; have := h.1; omega)
    rw [e]
    exact ⟨h, hd⟩
  | k + 1 => by
    obtain ⟨g1, g2⟩ := ticks_rel h hd k
    have := tick1_rel g1 g2
    rw [x_pass_add] at this
    exact this
theorem x_pk_f {i d f : Int} {σ : ev_M} (i0 : 0 ≤ i) (d0 : 0 ≤ d) (f0 : 0 ≤ f) (f1 : f < 100) (hf : f ≠ 7 ∧ f ≠ 8 ∧ f ≠ 17 ∧ f ≠ 21 ∧ f ≠ 30 ∧ f ≠ 31) : x_pk i σ (1000 + 100 * d + f) = σ (1000 + 100 * d + f) := by
  unfold x_pk
  split
  · unfold x_come
    rw [ev_up_ne (by omega), ev_up_ne (by omega), ev_up_ne (by omega), ev_up_ne (by omega), ev_up_ne (by omega), ev_up_ne (by omega), ev_up_ne (by omega)]
  · rfl
theorem it_pk_f {d f : Int} {σ : ev_M} (d0 : 0 ≤ d) (f0 : 0 ≤ f) (f1 : f < 100) (hf : f ≠ 7 ∧ f ≠ 8 ∧ f ≠ 17 ∧ f ≠ 21 ∧ f ≠ 30 ∧ f ≠ 31) (n : Nat) : it x_pk σ n (1000 + 100 * d + f) = σ (1000 + 100 * d + f) := it_at' n (fun i σ hi => x_pk_f (by omega) d0 f0 f1 hf)
theorem x_pass_f {d f n : Int} {σ : ev_M} (d0 : 0 ≤ d) (f0 : 0 ≤ f) (f1 : f < 100) (hf : f ≠ 7 ∧ f ≠ 8 ∧ f ≠ 17 ∧ f ≠ 21 ∧ f ≠ 30 ∧ f ≠ 31) : x_pass n σ (1000 + 100 * d + f) = σ (1000 + 100 * d + f) := by
  unfold x_pass
  rw [it_pk_f d0 f0 f1 hf, ev_up_ne (by omega)]
theorem ticks_aux {b c : Int} {σ τ : ev_M} (hM : MI b τ) (h : Bn c σ τ) (k : Nat) (hn : Nm c σ τ) (hp : Pr c σ τ) : Nm c (x_pass (k : Int) σ) (m_ticks τ k) ∧ Pr c (x_pass (k : Int) σ) (m_ticks τ k) := by
  have hc := h.1
  exact ⟨hn.fr (fun d h0 h1 => x_pass_f h0 (by decide) (by decide) (by decide)) (fun d h0 h1 => m_ticks_w hM h0 (by omega) (by decide) (by decide) (by decide) k), hp.fr (fun d h0 h1 => x_pass_f h0 (by decide) (by decide) (by decide)) (m_ticks_o hM (by decide) (by decide) k)⟩
