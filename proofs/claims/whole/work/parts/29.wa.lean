/-! worlds of flat stores seen from a caller that has more -/
def ev_StA (A : Nat → Prop) (lay : ev_Y) (E : ev_E) (σ : ev_M) (U : State) : Prop := ∀ q ∈ lay, q.2.2.1 = 4 → va_Z "TalkBus" (ev_sn q.2.2.2) "[I" (.ref (E.1 q.1)) A U U.heap ∧ va_T .int (E.1 q.1) q.2.1 (fun j => .int (ev_av σ q j)) A U U.heap
def ev_WA (A : Nat → Prop) (lay : ev_Y) (E : ev_E) (σ : ev_M) (U : State) (H : Heap) : Prop :=
  va_P E.2.1 vwCl (ev_ws lay E σ) H ∧ va_D (ev_A lay E) (ev_ws lay E σ) ∧ va_K E.2.1 vwCl (ev_tys E) U ∧ (∀ w ∈ ev_nw, va_Nw w U) ∧ ev_StA A lay E σ U ∧ (∀ n, ev_in (σ n)) ∧ ev_sep lay ∧ ∀ a, ev_A lay E a → A a
theorem ev_WA.toU {A : Nat → Prop} {lay : ev_Y} {E : ev_E} {σ : ev_M} {s U : State} {H : Heap} {locs : List Loc} (h : ev_WA A lay E σ s H) (hS : va_S A s.heap H locs) (hU : U.heap = H) (hW : s.WarmedH U.vm) : ev_W lay E σ U U.heap := by
  obtain ⟨h1, h2, h3, h4, h5, h6, h7, h8⟩ := h
  refine ⟨by rw [hU]; exact h1, h2, h3.moved hW.alike, ev_nw_moved hW h4, ?_, h6, h7⟩
  intro q hq h4
  obtain ⟨a, b⟩ := h5 q hq h4
  rw [hU]
  exact ⟨((a.kept (fun x h1 h2 => hS.2.1 x h1 h2)).moved hW.alike).narrow h8, ((b.kept (fun x h1 h2 => hS.2.1 x h1 h2)).moved hW.alike).narrow h8⟩
theorem ev_WA.back {A : Nat → Prop} {lay : ev_Y} {E : ev_E} {σ σ' : ev_M} {s t : State} {H H1 : Heap} {locs : List Loc} (h : ev_WA A lay E σ s H) (g : ev_W lay E σ' t t.heap) (ht : t.heap = H1) (hS : va_S A s.heap H1 locs) : ev_WA A lay E σ' s H1 := by
  obtain ⟨h1, h2, h3, h4, h5, h6, h7, h8⟩ := h
  obtain ⟨g1, g2, g3, g4, g5, g6, g7⟩ := g
  refine ⟨by rw [← ht]; exact g1, g2, h3, h4, ?_, g6, g7, h8⟩
  intro q hq h4
  obtain ⟨a, cell, b1, b2, b3, b4, b5, b6, b7⟩ := h5 q hq h4
  obtain ⟨-, cell', c1, c2, c3, c4, c5, c6, c7⟩ := g5 q hq h4
  refine ⟨a, cell, b1, b2, b3, b4, b5, ?_, b7⟩
  have hc : cell' = cell := by
    have := hS.2.1 (E.1 q.1) (Array.getElem?_eq_some_iff.mp b1).1 b7
    rw [← ht, c1, b1] at this
    exact Option.some.inj this
  rw [← hc]
  exact c6
theorem ev_WA.kept {A : Nat → Prop} {lay : ev_Y} {E : ev_E} {σ : ev_M} {s : State} {H H1 : Heap} (h : ev_WA A lay E σ s H) (hk : ∀ a, ev_A lay E a → H1[a]? = H[a]?) : ev_WA A lay E σ s H1 := by
  obtain ⟨h1, h2, h3⟩ := h
  exact ⟨h1.kept (fun k q hq => hk q.1 (h2.2 k q hq)), h2, h3⟩
theorem ev_WA.lt {A : Nat → Prop} {lay : ev_Y} {E : ev_E} {σ : ev_M} {s : State} {H : Heap} (h : ev_WA A lay E σ s H) {a : Nat} (ha : ev_A lay E a) : a < H.size := by
  obtain ⟨q, hq, rfl⟩ := ha
  obtain ⟨k, hk⟩ := List.getElem?_of_mem hq
  exact (h.1 k _ (ev_at (σ := σ) hk)).lt
section KC
variable {p : Program} {l : Launch} {e : Env} {R : Room} {s : State} {m : MethodId} {args : Array Value} {below : List Frame} {meth : Method} {c : Code} {H : Heap} {locs : List Loc} {cells slots : Nat} {Q : State → Prop} {pc : Nat} {ls : Array Slot} {A : Nat → Prop} {cc : ByteArray} {nL : Nat} {own : String} {Ts : List Cond}
/-- a call of a method of which Ev speaks, from any frame: void -/
theorem kc_v {I' : ev_I} {lay : ev_Y} {E : ev_E} {σ : ev_M} {As : List ev_V} {rest : List Value} {o : Int} {sz ci idx n : Nat} {Q' : Int → ev_M → Prop} {L0 : List (Option ev_V)} (hx : p.tables.exec = Jvm.exec) (hb : c.code = cc) (hml : c.maxLocals = nL) (hown : s.vm.findClass own = some m.cls) (hts : ∀ w ∈ Ts, w.before args s = true) (hls : ls.size = nL)
    (hd : decode cc pc = .ok (.invokevirtual idx, 3)) (hG : GoodIn Ts (wsV own idx I'.1.cls I'.1 (ev_ts I'))) (hy : ev_Yv I' n) (hm : (o, sz, 0, ci) ∈ lay) (hci : vwCl[ci]?.map (fun q => q.1) = some I'.1.cls) (hn : As.length = n) (hLL : As.length + 1 ≤ I'.2.2.1) (hok : ∀ v ∈ As, ev_ok v)
    (hR : I'.2.2.2.2.frames + 1 ≤ R.frames ∧ 8 + (I'.2.2.1 + 11) + I'.2.2.2.2.locals ≤ R.locals) (hst : (rest.map fun v => v.category).sum ≤ 8) (hf : cells ≤ R.cells ∧ slots ≤ R.slots) (hr : I'.2.2.2.1 = none)
    (hL0 : (rv o :: As).map some ++ List.replicate (I'.2.2.1 - (rv o :: As).length) none = L0) (h : Ev I' lay 0 L0 [] σ Q') (hW : ev_WA A lay E σ s H) (hS : va_S A s.heap H locs)
    (kk : ∀ (σ' : ev_M) (H1 : Heap) (locs1 : List Loc), Q' 0 σ' → ev_WA A lay E σ' s H1 → va_S A s.heap H1 locs1 → (∀ q : Nat, q < H.size → ¬ ev_A lay E q → H1[q]? = H[q]?) → H.size ≤ H1.size → W p l e R s m args below meth c H1 locs1 cells slots Q (F0 m (pc + 3) ls rest)) :
    W p l e R s m args below meth c H locs cells slots Q (F0 m pc ls ((As.map (ev_vl E.1)).reverse ++ .ref (E.1 o) :: rest)) := by
  obtain ⟨w1, w2, w3, w4, w5, w6, w7, w8⟩ := id hW
  obtain ⟨y1, y2, y3, y4, y5, y6, y7, y8⟩ := id hy
  obtain ⟨q0, hq0⟩ := ev_place hm (by simp)
  have he := ev_at (E := E) (σ := σ) hq0
  obtain ⟨vq, hvq, hve⟩ : ∃ vq, vwCl[ci]? = some vq ∧ vq.1 = I'.1.cls := by
    cases hx : vwCl[ci]? with
    | none => rw [hx] at hci; cases hci
    | some x => rw [hx] at hci; exact ⟨x, rfl, Option.some.inj hci⟩
  rw [← hL0] at h
  have hM := ev_met l E (rv o :: As) (ev_okc (ev_okr o) hok) (by simpa using hLL) y6 h
  have hpo : ev_post I' lay E Q' = va_Qv (fun σ' : ev_M => Q' 0 σ') (fun σ' t => ev_W lay E σ' t t.heap) (ev_A lay E) := by unfold ev_post; rw [if_pos hr]
  rw [hpo] at hM
  have hrv := va_recv w3 w1 hvq he
  rw [hve] at hrv
  have hrun := va_runV (p := p) (l := l) (e := e) (R := R) (below := below) (meth := meth) (locs := locs) (cells := cells) (slots := slots) (g := F0 m pc ls ((As.map (ev_vl E.1)).reverse ++ .ref (E.1 o) :: rest)) (As := As.map (ev_vl E.1)) (rest := rest) ⟨hx, hb, hml, hown, hts⟩ hM (cwV n hts hG rfl y7 y8 ⟨rfl, y5⟩ hR) ⟨ev_blind, hrv, fun U hU hWm => ⟨rfl, hW.toU hS hU hWm⟩⟩ rfl (by rw [List.length_map]; exact hn) hls rfl (lv_room hst) hd hf
  refine va_callv hrun hS (fun q _ h => w8 q h) (fun q h => w8 q h) (fun u t H1 locs1 ht hvm hp hB hz hk hS1 => ?_)
  exact kk u H1 locs1 hp (hW.back hB ht hS1) hS1 hk hz
/-- the same, with an int for an answer -/
theorem kc_i {I' : ev_I} {lay : ev_Y} {E : ev_E} {σ : ev_M} {As : List ev_V} {rest : List Value} {o : Int} {sz ci idx n : Nat} {Q' : Int → ev_M → Prop} {L0 : List (Option ev_V)} {ty : FieldType} (hx : p.tables.exec = Jvm.exec) (hb : c.code = cc) (hml : c.maxLocals = nL) (hown : s.vm.findClass own = some m.cls) (hts : ∀ w ∈ Ts, w.before args s = true) (hls : ls.size = nL)
    (hd : decode cc pc = .ok (.invokevirtual idx, 3)) (hG : GoodIn Ts (wsV own idx I'.1.cls I'.1 (ev_ts I'))) (hy : ev_Yv I' n) (hm : (o, sz, 0, ci) ∈ lay) (hci : vwCl[ci]?.map (fun q => q.1) = some I'.1.cls) (hn : As.length = n) (hLL : As.length + 1 ≤ I'.2.2.1) (hok : ∀ v ∈ As, ev_ok v)
    (hR : I'.2.2.2.2.frames + 1 ≤ R.frames ∧ 8 + (I'.2.2.1 + 11) + I'.2.2.2.2.locals ≤ R.locals) (hst : (rest.map fun v => v.category).sum ≤ 8) (hf : cells ≤ R.cells ∧ slots ≤ R.slots) (hr : I'.2.2.2.1 = some ty)
    (hL0 : (rv o :: As).map some ++ List.replicate (I'.2.2.1 - (rv o :: As).length) none = L0) (h : Ev I' lay 0 L0 [] σ Q') (hW : ev_WA A lay E σ s H) (hS : va_S A s.heap H locs)
    (kk : ∀ (i : Int) (σ' : ev_M) (H1 : Heap) (locs1 : List Loc), ev_in i → Q' i σ' → ev_WA A lay E σ' s H1 → va_S A s.heap H1 locs1 → (∀ q : Nat, q < H.size → ¬ ev_A lay E q → H1[q]? = H[q]?) → H.size ≤ H1.size → W p l e R s m args below meth c H1 locs1 cells slots Q (F0 m (pc + 3) ls (.int (Int32.ofInt i) :: rest))) :
    W p l e R s m args below meth c H locs cells slots Q (F0 m pc ls ((As.map (ev_vl E.1)).reverse ++ .ref (E.1 o) :: rest)) := by
  obtain ⟨w1, w2, w3, w4, w5, w6, w7, w8⟩ := id hW
  obtain ⟨y1, y2, y3, y4, y5, y6, y7, y8⟩ := id hy
  obtain ⟨q0, hq0⟩ := ev_place hm (by simp)
  have he := ev_at (E := E) (σ := σ) hq0
  obtain ⟨vq, hvq, hve⟩ : ∃ vq, vwCl[ci]? = some vq ∧ vq.1 = I'.1.cls := by
    cases hx : vwCl[ci]? with
    | none => rw [hx] at hci; cases hci
    | some x => rw [hx] at hci; exact ⟨x, rfl, Option.some.inj hci⟩
  rw [← hL0] at h
  have hM := ev_met l E (rv o :: As) (ev_okc (ev_okr o) hok) (by simpa using hLL) y6 h
  have hpo : ev_post I' lay E Q' = va_Qi (fun (r : Int32) (σ' : ev_M) => ∃ i, ev_in i ∧ r = Int32.ofInt i ∧ Q' i σ') (fun σ' t => ev_W lay E σ' t t.heap) (ev_A lay E) := by unfold ev_post; rw [if_neg (by rw [hr]; simp)]
  rw [hpo] at hM
  have hrv := va_recv w3 w1 hvq he
  rw [hve] at hrv
  have hrun := va_runV (p := p) (l := l) (e := e) (R := R) (below := below) (meth := meth) (locs := locs) (cells := cells) (slots := slots) (g := F0 m pc ls ((As.map (ev_vl E.1)).reverse ++ .ref (E.1 o) :: rest)) (As := As.map (ev_vl E.1)) (rest := rest) ⟨hx, hb, hml, hown, hts⟩ hM (cwV n hts hG rfl y7 y8 ⟨rfl, y5⟩ hR) ⟨ev_blind, hrv, fun U hU hWm => ⟨rfl, hW.toU hS hU hWm⟩⟩ rfl (by rw [List.length_map]; exact hn) hls rfl (lv_room hst) hd hf
  refine va_calli hrun hS (fun q _ h => w8 q h) (fun q h => w8 q h) (fun r u t H1 locs1 ht hvm hp hB hz hk hS1 => ?_)
  obtain ⟨i, hi, rfl, hq⟩ := hp
  exact kk i u H1 locs1 hi hq (hW.back hB ht hS1) hS1 hk hz
end KC
