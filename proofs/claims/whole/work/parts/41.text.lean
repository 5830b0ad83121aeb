/-! the text: both sides read the same -/
def La (L L' : Int → Int) : Prop := ∀ p, 0 ≤ p → L p = L' p
theorem nf_d {L L' : Int → Int} (h : La L L') {p : Int} (hp : 0 ≤ p) : nf L p = nf L' p := by unfold nf; rw [h p hp, h (p + 1) (by omega)]
theorem nv_d {L L' : Int → Int} (h : La L L') {p : Int} (hp : 0 ≤ p) : nv L p = nv L' p := by unfold nv; rw [h p hp, h (p + 1) (by omega)]
theorem nf_0 {L : Int → Int} {p : Int} : 0 ≤ nf L p := by unfold nf; repeat' split; all_goals omega
theorem en_ge {L : Int → Int} {p : Int} : ∀ k : Nat, p ≤ en L p k
  | 0 => Int.le_refl p
  | k + 1 => by
    have := en_ge (L := L) (p := p) k
    have := nf_0 (L := L) (p := en L p k + 1)
    show p ≤ en L p k + 1 + nf L (en L p k + 1)
    omega
theorem en_c {L L' : Int → Int} (h : La L L') {p : Int} (hp : 0 ≤ p) : ∀ k : Nat, en L p k = en L' p k
  | 0 => rfl
  | k + 1 => by
    have g := en_ge (L := L') (p := p) k
    show en L p k + 1 + nf L (en L p k + 1) = en L' p k + 1 + nf L' (en L' p k + 1)
    rw [en_c h hp k, nf_d h (by omega)]
theorem vl_c {L L' : Int → Int} (h : La L L') {p : Int} (hp : 0 ≤ p) (k : Nat) : vl L p k = vl L' p k := by
  have g := en_ge (L := L') (p := p) k
  unfold vl
  rw [en_c h hp, nv_d h (by omega)]
theorem nok_c {L L' : Int → Int} (h : La L L') {p : Int} (hp : 0 ≤ p) (k : Nat) : nok L p k ↔ nok L' p k := by
  have g := en_ge (L := L') (p := p) k
  unfold nok
  rw [en_c h hp, vl_c h hp, nf_d h (by omega), h (en L' p k) (by omega)]
theorem itok_d {L L' : Int → Int} (h : La L L') {p : Int} (hp : 0 ≤ p) : itok L p ↔ itok L' p := by
  have g := en_ge (L := L') (p := p) 5
  unfold itok
  rw [h p hp, en_c h hp, h (en L' p 5) (by omega)]
  exact ⟨fun h1 => ⟨h1.1, fun k hk => (nok_c h hp k).mp (h1.2.1 k hk), h1.2.2⟩, fun h1 => ⟨h1.1, fun k hk => (nok_c h hp k).mpr (h1.2.1 k hk), h1.2.2⟩⟩
theorem sp_ge {L : Int → Int} : ∀ n : Nat, 0 ≤ sp L n
  | 0 => Int.le_refl 0
  | n + 1 => by
    have := sp_ge (L := L) n
    have := en_ge (L := L) (p := sp L n) 5
    show 0 ≤ en L (sp L n) 5 + 1
    omega
theorem sp_c {L L' : Int → Int} (h : La L L') : ∀ n : Nat, sp L n = sp L' n
  | 0 => rfl
  | n + 1 => by
    show en L (sp L n) 5 + 1 = en L' (sp L' n) 5 + 1
    rw [sp_c h n, en_c h (sp_ge n)]
theorem va_c {L L' : Int → Int} (h : La L L') (n f : Nat) : va L n f = va L' n f := by
  unfold va
  rw [sp_c h, vl_c h (sp_ge n)]
theorem okit_c {L L' : Int → Int} (h : La L L') (n : Nat) : okit L n ↔ okit L' n := by
  unfold okit apt
  rw [sp_c h, itok_d h (sp_ge n)]
  simp only [va_c h]
theorem RdP_c {L L' : Int → Int} (h : La L L') {len r : Int} {n : Nat} (g : RdP L len r n) : RdP L' len r n := by
  unfold RdP at g ⊢
  simp only [sp_c h, okit_c h] at g
  exact g
theorem RdP_u {L : Int → Int} {len r r' : Int} {n n' : Nat} (g : RdP L len r n) (g' : RdP L len r' n') : r = r' ∧ n = n' := by
  obtain ⟨a1, a2, a3⟩ := g
  obtain ⟨b1, b2, b3⟩ := g'
  have e : n = n' := by
    rcases Nat.lt_trichotomy n n' with h | h | h
    · exfalso
      obtain ⟨h1, h2⟩ := b2 n h
      rcases a3 with ⟨h3, -⟩ | ⟨-, h3, -⟩
      · omega
      · rcases h3 with h3 | h3
        · omega
        · exact h3 h2
    · exact h
    · exfalso
      obtain ⟨h1, h2⟩ := a2 n' h
      rcases b3 with ⟨h3, -⟩ | ⟨-, h3, -⟩
      · omega
      · rcases h3 with h3 | h3
        · omega
        · exact h3 h2
  subst e
  refine ⟨?_, rfl⟩
  rcases a3 with ⟨h3, h4⟩ | ⟨h3, -, h4⟩ <;> rcases b3 with ⟨h5, h6⟩ | ⟨h5, -, h6⟩ <;> omega
theorem La_xm {b c : Int} {σ τ : ev_M} (hX : XI b σ) (h : Bn c σ τ) : La (Lm τ) (Lx σ) := by
  intro p hp
  have l := hX.s22
  unfold Lm Lx
  rw [h.len]
  by_cases h1 : p < σ 22
  · rw [if_pos h1, if_pos ⟨hp, h1⟩]
    have lc := lc_ltr hp (by omega : p < 200)
    rw [← lc.2]
    exact h.2.1 _ (by unfold rel; omega)
  · rw [if_neg h1, if_neg (fun h9 => h1 h9.2)]
theorem RR.ext {c : Int} {σ τ σ' τ' : ev_M} (h : RR c σ τ) (hx : XF σ σ') (hm : RF τ τ') : RR c σ' τ' := by
  obtain ⟨⟨⟨a1, a2, a3⟩, b, s, t, f, g, i1, i2⟩, d, n, p⟩ := h
  refine ⟨⟨⟨a1, a2, by rw [hm 2 (by omega)]; exact a3⟩, fun k hk => ?_, s.fr (fun d h0 h1 => hx _ (by omega)) (fun d h0 h1 => hx _ (by omega)) (fun d h0 h1 => hm _ (by omega)), t.fr (hx 7 (by omega)) (fun d h0 h1 => hm _ (by omega)), f.fr (fun d h0 h1 => hx _ (by omega)) (fun d h0 h1 => hx _ (by omega)) (fun d h0 h1 => hx _ (by omega)), g.fr (fun k hk => hx _ (by omega)) (fun k h0 h1 => hm _ (by omega)), by rw [hx 6 (by omega)]; exact ⟨i1, i2⟩⟩, d.fr (hx 5 (by omega)) (fun d h0 h1 => hx _ (by omega)), n.fr (fun d h0 h1 => hx _ (by omega)) (fun d h0 h1 => hm _ (by omega)), p.fr (fun d h0 h1 => hx _ (by omega)) (hm 9 (by omega))⟩
  have h6 := rel6 a2 hk
  have hxo := (lc_p h6).2
  have hr := rel_rng h6
  rw [hm k (by unfold rel at h6; omega), hx (lc k) (fun h9 => hxo (by unfold xo; omega))]
  exact b k hk
theorem L_fault {b r r' : Int} {σ τ σ' τ' : ev_M} (h : LI b σ τ) (hx : XdQ σ b r σ') (hm : RdQ τ b r' τ') : r = r' ∧ LI (b + 4000) σ' τ' := by
  obtain ⟨hX, hM, c, hr⟩ := id h
  obtain ⟨x1, x2, n, x3, x4⟩ := hx
  obtain ⟨m1, m2, n', m3, m4⟩ := hm
  have m5 := RdP_c (La_xm hX hr.1) m3
  rw [hr.1.len] at m5
  exact ⟨(RdP_u x3 m5).1, x2.mono (by omega), m2.mono (by omega), c, hr.ext x1 m1⟩
