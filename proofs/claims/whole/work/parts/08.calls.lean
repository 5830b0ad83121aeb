/-! calls over flat stores -/
theorem ev_sl {ad : Int → Nat} : ∀ As : List ev_V, lg_sl (As.map (ev_vl ad)) = As.map (fun v => Slot.val (ev_vl ad v))
  | [] => rfl
  | a :: As => by
    show (if (ev_vl ad a).category = 2 then _ else _) ++ lg_sl (As.map (ev_vl ad)) = _
    rw [ev_cat, if_neg (by decide), ev_sl As]
    rfl
theorem ev_args {ad : Int → Nat} : ∀ (As : List ev_V) (i k : Nat) (v : ev_V), As[k]? = some v → (i + k, ev_vl ad v) ∈ lv_args i (As.map (ev_vl ad))
  | [], _, k, v, h => by simp at h
  | a :: As, i, k, v, h => by
    show _ ∈ (i, ev_vl ad a) :: lv_args (if (ev_vl ad a).category = 2 then i + 2 else i + 1) (As.map (ev_vl ad))
    rw [ev_cat, if_neg (by decide)]
    cases k with
    | zero =>
      have e : a = v := Option.some.inj h
      rw [e]
      exact List.mem_cons_self
    | succ k =>
      have := ev_args (ad := ad) As (i + 1) k v h
      rw [show i + 1 + k = i + (k + 1) by omega] at this
      exact List.mem_cons_of_mem _ this
theorem ev_met {I' : ev_I} {lay : ev_Y} {σ : ev_M} {Q' : Int → ev_M → Prop} (l : Launch) (E : ev_E) (As : List ev_V) (hA : ∀ v ∈ As, ev_ok v) (hlen : As.length ≤ I'.2.2.1) (hpl : plainName I'.1.cls = true) (h : Ev I' lay 0 (As.map some ++ List.replicate (I'.2.2.1 - As.length) none) [] σ Q') :
    Met l I'.1 (ev_ts I') I'.2.2.2.2 (va_Pc (As.map (ev_vl E.1)) (fun U => ev_W lay E σ U U.heap)) (ev_post I' lay E Q') 0 0 (ev_A lay E) := by
  refine Met.ofW (cc := I'.2.1) (maxL := I'.2.2.1) (ret := I'.2.2.2.1) hpl rfl ?_
  intro p e s m args below meth c s₁ B hml hv
  obtain ⟨rfl, hW⟩ := hv
  have hl := lv_entry (As.map (ev_vl E.1)) (n := I'.2.2.1) (by rw [ev_sl, List.length_map]; exact hlen)
  rw [lg_entry_eq]
  generalize (lg_sl (As.map (ev_vl E.1)) ++ List.replicate (I'.2.2.1 - (lg_sl (As.map (ev_vl E.1))).length) Slot.unset).toArray = ls at hl ⊢
  refine h p l e s m _ below meth c E ls s.heap [] ⟨B.exec, B.bytes, hml, B.returns, B.notSynchronized, findClass_of_methodNamed B.named, atoms_spec (ws := ev_ts I') B.pre⟩ ⟨hl.1, hl.2.1, ?_, ?_, ?_⟩ (fun v hv => by simp at hv) hW va_S.rf
  · simp; omega
  · intro k v hk
    have hk2 : As[k]? = some v := by
      by_cases hlt : k < As.length
      · rw [List.getElem?_append_left (by rw [List.length_map]; exact hlt), List.getElem?_map] at hk
        cases hq : As[k]? with
        | none => rw [hq] at hk; cases hk
        | some x => rw [hq] at hk; rw [Option.some.inj (Option.some.inj hk)]
      · rw [List.getElem?_append_right (by rw [List.length_map]; omega)] at hk
        have := List.mem_of_getElem? hk
        rw [List.mem_replicate] at this
        cases this.2
    have := hl.2.2 _ (ev_args (ad := E.1) As 0 k v hk2)
    rw [Nat.zero_add] at this
    exact this
  · intro v hv
    rcases List.mem_append.mp hv with h1 | h1
    · obtain ⟨x, hx, e1⟩ := List.mem_map.mp h1
      rw [← Option.some.inj e1]
      exact hA x hx
    · rw [List.mem_replicate] at h1
      cases h1.2
theorem ev_goodv {I I' : ev_I} {idx n : Nat} (hl : Cond.methodLink I.1.cls idx I'.1 ∈ ev_aw) (hy : ev_Yv I' n) : GoodIn (ev_ts I) (wsV I.1.cls idx I'.1.cls I'.1 (ev_ts I')) := by
  have g : ∀ w ∈ ev_aw, w ∈ ev_ts I ∧ ((w.onTables && w.keeps) = true ∨ ∃ ty, w = .arrayClass ty) := fun w h => ⟨ev_aw_ts h, good_of_word (List.mem_filter.mp h).2⟩
  obtain ⟨y1, y2, y3, y4, -⟩ := hy
  intro w hw
  unfold wsV ev_ts at hw
  rcases List.mem_append.mp hw with h | h
  · simp only [List.mem_cons, List.not_mem_nil, or_false] at h
    rcases h with rfl | rfl | rfl | rfl
    · exact g _ hl
    · exact g _ y1
    · exact g _ y2
    · exact g _ y3
  · rcases List.mem_cons.mp h with rfl | h
    · exact g _ y4
    · exact g _ h
theorem ev_goods {I I' : ev_I} {idx n : Nat} (hl : Cond.methodLink I.1.cls idx I'.1 ∈ ev_aw) (hy : ev_Ys I' n) : GoodIn (ev_ts I) (va_wsS I.1.cls idx I'.1 (ev_ts I')) := by
  have g : ∀ w ∈ ev_aw, w ∈ ev_ts I ∧ ((w.onTables && w.keeps) = true ∨ ∃ ty, w = .arrayClass ty) := fun w h => ⟨ev_aw_ts h, good_of_word (List.mem_filter.mp h).2⟩
  obtain ⟨y1, y3, y4, -⟩ := hy
  intro w hw
  unfold va_wsS ev_ts at hw
  rcases List.mem_append.mp hw with h | h
  · simp only [List.mem_cons, List.not_mem_nil, or_false] at h
    rcases h with rfl | rfl | rfl
    · exact g _ hl
    · exact g _ y1
    · exact g _ y3
  · rcases List.mem_cons.mp h with rfl | h
    · exact g _ y4
    · exact g _ h
theorem ev_goodt {I I' : ev_I} {n : Nat} (hy : ev_Ys I' n) : GoodIn (ev_ts I) (ev_ts I') := by
  have g : ∀ w ∈ ev_aw, w ∈ ev_ts I ∧ ((w.onTables && w.keeps) = true ∨ ∃ ty, w = .arrayClass ty) := fun w h => ⟨ev_aw_ts h, good_of_word (List.mem_filter.mp h).2⟩
  obtain ⟨y1, y3, y4, -⟩ := hy
  intro w hw
  rcases List.mem_cons.mp hw with rfl | h
  · exact g _ y4
  · exact g _ h
theorem ev_sumc {ad : Int → Nat} : ∀ S : List ev_V, ((S.map (ev_vl ad)).map fun v => v.category).sum = S.length
  | [] => rfl
  | a :: S => by
    rw [List.map_cons, List.map_cons, List.sum_cons, ev_sumc S, ev_cat, List.length_cons]; omega
theorem ev_blind {lay : ev_Y} {E : ev_E} {σ : ev_M} {av : List Value} : FrameBlind (va_Pc av (fun U => ev_W lay E σ U U.heap)) := fun a U g mk h => ⟨h.1, h.2.blind rfl rfl⟩
section EVC
variable {I I' : ev_I} {lay : ev_Y} {pc : Nat} {L : List (Option ev_V)} {S As : List ev_V} {σ : ev_M} {Q Q' : Int → ev_M → Prop} {o : Int} {sz ci idx n : Nat}
theorem ev_okA (h : ∀ v ∈ As.reverse ++ S, ev_ok v) : (∀ v ∈ As, ev_ok v) ∧ ∀ v ∈ S, ev_ok v := ⟨fun v hv => h v (List.mem_append_left _ (List.mem_reverse.mpr hv)), fun v hv => h v (List.mem_append_right _ hv)⟩
theorem Ev.callVi (hd : decode I.2.1 pc = .ok (.invokevirtual idx, 3)) (hl : Cond.methodLink I.1.cls idx I'.1 ∈ ev_aw) (hy : ev_Yv I' n) (hm : (o, sz, 0, ci) ∈ lay) (hci : vwCl[ci]?.map (fun q => q.1) = some I'.1.cls) (hn : As.length = n) (hLL : As.length + 1 ≤ I'.2.2.1) (hR : ev_Rm I I') (hs : S.length ≤ 8) {ty : FieldType} (hr : I'.2.2.2.1 = some ty) (h : Ev I' lay 0 ((rv o :: As).map some ++ List.replicate (I'.2.2.1 - (rv o :: As).length) none) [] σ Q') (k : ∀ r σ', ev_in r → Q' r σ' → Ev I lay (pc + 3) L (iv r :: S) σ' Q) : Ev I lay pc L (As.reverse ++ rv o :: S) σ Q := by
  intro p l e s m args below meth c E ls H locs X hL hS hW hV
  obtain ⟨w1, w2, w3, w4, w5, w6, w7⟩ := id hW
  obtain ⟨x1, x2, x3, x4, x5, x6, x7⟩ := id X
  obtain ⟨okA, okS⟩ := ev_okA hS
  obtain ⟨y1, y2, y3, y4, y5, y6, y7, y8⟩ := id hy
  obtain ⟨q0, hq0⟩ := ev_place hm (by simp)
  have he := ev_at (E := E) (σ := σ) hq0
  obtain ⟨vq, hvq, hve⟩ : ∃ vq, vwCl[ci]? = some vq ∧ vq.1 = I'.1.cls := by
    cases hx : vwCl[ci]? with
    | none => rw [hx] at hci; cases hci
    | some x => rw [hx] at hci; exact ⟨x, rfl, Option.some.inj hci⟩
  have hM := ev_met l E (rv o :: As) (ev_okc (ev_okr o) okA) (by simpa using hLL) y6 h
  have hpo : ev_post I' lay E Q' = va_Qi (fun (r : Int32) (σ' : ev_M) => ∃ i, ev_in i ∧ r = Int32.ofInt i ∧ Q' i σ') (fun σ' t => ev_W lay E σ' t t.heap) (ev_A lay E) := by unfold ev_post; rw [if_neg (by rw [hr]; simp)]
  rw [hpo] at hM
  have hrv := va_recv w3 w1 hvq he
  rw [hve] at hrv
  have hrun := va_runV (p := p) (l := l) (e := e) (R := I.2.2.2.2) (below := below) (meth := meth) (locs := locs) (cells := 0) (slots := 0) (g := F0 m pc ls ((As.reverse ++ rv o :: S).map (ev_vl E.1))) (As := As.map (ev_vl E.1)) (rest := S.map (ev_vl E.1)) ⟨x1, x2, x3, x6, x7⟩ hM (cwV n x7 (ev_goodv hl hy) rfl y7 y8 ⟨rfl, y5⟩ hR) ⟨ev_blind, hrv, fun U hU hWm => ⟨rfl, hW.moved hV hU hWm⟩⟩ rfl (by rw [List.length_map]; exact hn) hL.1 (by simp [ev_vl, List.map_append, List.map_reverse]) (lv_room (by rw [ev_sumc]; exact hs)) hd ⟨Nat.zero_le _, Nat.zero_le _⟩
  refine va_calli hrun hV (fun q _ h => h) (fun q h => h) (fun r u t H1 locs1 ht hvm hp hB hz hk hS1 => ?_)
  obtain ⟨i, hi, rfl, hq⟩ := hp
  exact k i u hi hq p l e s m args below meth c E ls H1 locs1 X hL (ev_okc (ev_oki hi) (ev_okt okS)) (hW.back hB ht hS1) hS1
theorem Ev.callVv (hd : decode I.2.1 pc = .ok (.invokevirtual idx, 3)) (hl : Cond.methodLink I.1.cls idx I'.1 ∈ ev_aw) (hy : ev_Yv I' n) (hm : (o, sz, 0, ci) ∈ lay) (hci : vwCl[ci]?.map (fun q => q.1) = some I'.1.cls) (hn : As.length = n) (hLL : As.length + 1 ≤ I'.2.2.1) (hR : ev_Rm I I') (hs : S.length ≤ 8) (hr : I'.2.2.2.1 = none) (h : Ev I' lay 0 ((rv o :: As).map some ++ List.replicate (I'.2.2.1 - (rv o :: As).length) none) [] σ Q') (k : ∀ σ', Q' 0 σ' → Ev I lay (pc + 3) L S σ' Q) : Ev I lay pc L (As.reverse ++ rv o :: S) σ Q := by
  intro p l e s m args below meth c E ls H locs X hL hS hW hV
  obtain ⟨w1, w2, w3, w4, w5, w6, w7⟩ := id hW
  obtain ⟨x1, x2, x3, x4, x5, x6, x7⟩ := id X
  obtain ⟨okA, okS⟩ := ev_okA hS
  obtain ⟨y1, y2, y3, y4, y5, y6, y7, y8⟩ := id hy
  obtain ⟨q0, hq0⟩ := ev_place hm (by simp)
  have he := ev_at (E := E) (σ := σ) hq0
  obtain ⟨vq, hvq, hve⟩ : ∃ vq, vwCl[ci]? = some vq ∧ vq.1 = I'.1.cls := by
    cases hx : vwCl[ci]? with
    | none => rw [hx] at hci; cases hci
    | some x => rw [hx] at hci; exact ⟨x, rfl, Option.some.inj hci⟩
  have hM := ev_met l E (rv o :: As) (ev_okc (ev_okr o) okA) (by simpa using hLL) y6 h
  have hpo : ev_post I' lay E Q' = va_Qv (fun σ' : ev_M => Q' 0 σ') (fun σ' t => ev_W lay E σ' t t.heap) (ev_A lay E) := by unfold ev_post; rw [if_pos hr]
  rw [hpo] at hM
  have hrv := va_recv w3 w1 hvq he
  rw [hve] at hrv
  have hrun := va_runV (p := p) (l := l) (e := e) (R := I.2.2.2.2) (below := below) (meth := meth) (locs := locs) (cells := 0) (slots := 0) (g := F0 m pc ls ((As.reverse ++ rv o :: S).map (ev_vl E.1))) (As := As.map (ev_vl E.1)) (rest := S.map (ev_vl E.1)) ⟨x1, x2, x3, x6, x7⟩ hM (cwV n x7 (ev_goodv hl hy) rfl y7 y8 ⟨rfl, y5⟩ hR) ⟨ev_blind, hrv, fun U hU hWm => ⟨rfl, hW.moved hV hU hWm⟩⟩ rfl (by rw [List.length_map]; exact hn) hL.1 (by simp [ev_vl, List.map_append, List.map_reverse]) (lv_room (by rw [ev_sumc]; exact hs)) hd ⟨Nat.zero_le _, Nat.zero_le _⟩
  refine va_callv hrun hV (fun q _ h => h) (fun q h => h) (fun u t H1 locs1 ht hvm hp hB hz hk hS1 => ?_)
  exact k u hp p l e s m args below meth c E ls H1 locs1 X hL (ev_okt okS) (hW.back hB ht hS1) hS1
theorem Ev.callSi (hd : decode I.2.1 pc = .ok (.invokestatic idx, 3)) (hl : Cond.methodLink I.1.cls idx I'.1 ∈ ev_aw) (hy : ev_Ys I' n) (hn : As.length = n) (hLL : As.length ≤ I'.2.2.1) (hR : ev_Rm I I') (hs : S.length ≤ 8) {ty : FieldType} (hr : I'.2.2.2.1 = some ty) (h : Ev I' lay 0 ((As).map some ++ List.replicate (I'.2.2.1 - (As).length) none) [] σ Q') (k : ∀ r σ', ev_in r → Q' r σ' → Ev I lay (pc + 3) L (iv r :: S) σ' Q) : Ev I lay pc L (As.reverse ++ S) σ Q := by
  intro p l e s m args below meth c E ls H locs X hL hS hW hV
  obtain ⟨w1, w2, w3, w4, w5, w6, w7⟩ := id hW
  obtain ⟨x1, x2, x3, x4, x5, x6, x7⟩ := id X
  obtain ⟨okA, okS⟩ := ev_okA hS
  obtain ⟨y1, y3, y4, y5, y6, y7, y8⟩ := id hy
  have hM := ev_met l E (As) okA (by simpa using hLL) y6 h
  have hpo : ev_post I' lay E Q' = va_Qi (fun (r : Int32) (σ' : ev_M) => ∃ i, ev_in i ∧ r = Int32.ofInt i ∧ Q' i σ') (fun σ' t => ev_W lay E σ' t t.heap) (ev_A lay E) := by unfold ev_post; rw [if_neg (by rw [hr]; simp)]
  rw [hpo] at hM
  have hrun := va_runS (p := p) (l := l) (e := e) (R := I.2.2.2.2) (below := below) (meth := meth) (locs := locs) (cells := 0) (slots := 0) (g := F0 m pc ls ((As.reverse ++ S).map (ev_vl E.1))) (As := As.map (ev_vl E.1)) (rest := S.map (ev_vl E.1)) ⟨x1, x2, x3, x6, x7⟩ hM (va_cwS n x7 (ev_goods hl hy) rfl y7 y8 y5 hR) ⟨ev_blind, fun U hU hWm => ⟨rfl, hW.moved hV hU hWm⟩⟩ rfl (by rw [List.length_map]; exact hn) hL.1 (by simp [ev_vl, List.map_append, List.map_reverse]) (lv_room (by rw [ev_sumc]; exact hs)) hd ⟨Nat.zero_le _, Nat.zero_le _⟩
  refine va_calli hrun hV (fun q _ h => h) (fun q h => h) (fun r u t H1 locs1 ht hvm hp hB hz hk hS1 => ?_)
  obtain ⟨i, hi, rfl, hq⟩ := hp
  exact k i u hi hq p l e s m args below meth c E ls H1 locs1 X hL (ev_okc (ev_oki hi) okS) (hW.back hB ht hS1) hS1
theorem Ev.callSv (hd : decode I.2.1 pc = .ok (.invokestatic idx, 3)) (hl : Cond.methodLink I.1.cls idx I'.1 ∈ ev_aw) (hy : ev_Ys I' n) (hn : As.length = n) (hLL : As.length ≤ I'.2.2.1) (hR : ev_Rm I I') (hs : S.length ≤ 8) (hr : I'.2.2.2.1 = none) (h : Ev I' lay 0 ((As).map some ++ List.replicate (I'.2.2.1 - (As).length) none) [] σ Q') (k : ∀ σ', Q' 0 σ' → Ev I lay (pc + 3) L S σ' Q) : Ev I lay pc L (As.reverse ++ S) σ Q := by
  intro p l e s m args below meth c E ls H locs X hL hS hW hV
  obtain ⟨w1, w2, w3, w4, w5, w6, w7⟩ := id hW
  obtain ⟨x1, x2, x3, x4, x5, x6, x7⟩ := id X
  obtain ⟨okA, okS⟩ := ev_okA hS
  obtain ⟨y1, y3, y4, y5, y6, y7, y8⟩ := id hy
  have hM := ev_met l E (As) okA (by simpa using hLL) y6 h
  have hpo : ev_post I' lay E Q' = va_Qv (fun σ' : ev_M => Q' 0 σ') (fun σ' t => ev_W lay E σ' t t.heap) (ev_A lay E) := by unfold ev_post; rw [if_pos hr]
  rw [hpo] at hM
  have hrun := va_runS (p := p) (l := l) (e := e) (R := I.2.2.2.2) (below := below) (meth := meth) (locs := locs) (cells := 0) (slots := 0) (g := F0 m pc ls ((As.reverse ++ S).map (ev_vl E.1))) (As := As.map (ev_vl E.1)) (rest := S.map (ev_vl E.1)) ⟨x1, x2, x3, x6, x7⟩ hM (va_cwS n x7 (ev_goods hl hy) rfl y7 y8 y5 hR) ⟨ev_blind, fun U hU hWm => ⟨rfl, hW.moved hV hU hWm⟩⟩ rfl (by rw [List.length_map]; exact hn) hL.1 (by simp [ev_vl, List.map_append, List.map_reverse]) (lv_room (by rw [ev_sumc]; exact hs)) hd ⟨Nat.zero_le _, Nat.zero_le _⟩
  refine va_callv hrun hV (fun q _ h => h) (fun q h => h) (fun u t H1 locs1 ht hvm hp hB hz hk hS1 => ?_)
  exact k u hp p l e s m args below meth c E ls H1 locs1 X hL okS (hW.back hB ht hS1) hS1
theorem Ev.callNi (hd : decode I.2.1 pc = .ok (.invokestatic idx, 3)) {host : String} (hl : Cond.methodLinkNest I.1.cls idx I'.1 host ∈ ev_nw) (hy : ev_Ys I' n) (hn : As.length = n) (hLL : As.length ≤ I'.2.2.1) (hR : ev_Rm I I') (hs : S.length ≤ 8) {ty : FieldType} (hr : I'.2.2.2.1 = some ty) (h : Ev I' lay 0 ((As).map some ++ List.replicate (I'.2.2.1 - (As).length) none) [] σ Q') (k : ∀ r σ', ev_in r → Q' r σ' → Ev I lay (pc + 3) L (iv r :: S) σ' Q) : Ev I lay pc L (As.reverse ++ S) σ Q := by
  intro p l e s m args below meth c E ls H locs X hL hS hW hV
  obtain ⟨w1, w2, w3, w4, w5, w6, w7⟩ := id hW
  obtain ⟨x1, x2, x3, x4, x5, x6, x7⟩ := id X
  obtain ⟨okA, okS⟩ := ev_okA hS
  obtain ⟨y1, y3, y4, y5, y6, y7, y8⟩ := id hy
  have hM := ev_met l E (As) okA (by simpa using hLL) y6 h
  have hpo : ev_post I' lay E Q' = va_Qi (fun (r : Int32) (σ' : ev_M) => ∃ i, ev_in i ∧ r = Int32.ofInt i ∧ Q' i σ') (fun σ' t => ev_W lay E σ' t t.heap) (ev_A lay E) := by unfold ev_post; rw [if_neg (by rw [hr]; simp)]
  rw [hpo] at hM
  have hrun := va_runSN (p := p) (l := l) (e := e) (R := I.2.2.2.2) (below := below) (meth := meth) (locs := locs) (cells := 0) (slots := 0) (g := F0 m pc ls ((As.reverse ++ S).map (ev_vl E.1))) (As := As.map (ev_vl E.1)) (rest := S.map (ev_vl E.1)) ⟨x1, x2, x3, x6, x7⟩ hM ⟨va_cnB n x7 (ev_goodt hy) rfl y7 y8 (w4 _ hl) (ev_hts x7 y3) y5 hR, ev_hts x7 y1, trivial⟩ ⟨ev_blind, fun U hU hWm => ⟨rfl, hW.moved hV hU hWm⟩⟩ rfl (by rw [List.length_map]; exact hn) hL.1 (by simp [ev_vl, List.map_append, List.map_reverse]) (lv_room (by rw [ev_sumc]; exact hs)) hd ⟨Nat.zero_le _, Nat.zero_le _⟩
  refine va_calli hrun hV (fun q _ h => h) (fun q h => h) (fun r u t H1 locs1 ht hvm hp hB hz hk hS1 => ?_)
  obtain ⟨i, hi, rfl, hq⟩ := hp
  exact k i u hi hq p l e s m args below meth c E ls H1 locs1 X hL (ev_okc (ev_oki hi) okS) (hW.back hB ht hS1) hS1
theorem Ev.Vi0  {L0 : List (Option ev_V)} (hl : Cond.methodLink I.1.cls idx I'.1 ∈ ev_aw) (hd : decode I.2.1 pc = .ok (.invokevirtual idx, 3)) (hy : ev_Yv I' 0) (hm : (o, sz, 0, ci) ∈ lay) (hci : vwCl[ci]?.map (fun q => q.1) = some I'.1.cls) (hLL : 1 ≤ I'.2.2.1) (hR : ev_Rm I I') (hs : S.length ≤ 8) {ty : FieldType} (hr : I'.2.2.2.1 = some ty) (hL0 : [some (rv o)] ++ List.replicate (I'.2.2.1 - 1) none = L0) (h : Ev I' lay 0 L0 [] σ Q') (k : ∀ r σ', ev_in r → Q' r σ' → Ev I lay (pc + 3) L (iv r :: S) σ' Q) : Ev I lay pc L (rv o :: S) σ Q :=
  Ev.callVi (As := []) hd hl hy hm hci rfl hLL hR hs hr (by rw [← hL0] at h; exact h) k
theorem Ev.Vi1 {v0 : ev_V} {L0 : List (Option ev_V)} (hl : Cond.methodLink I.1.cls idx I'.1 ∈ ev_aw) (hd : decode I.2.1 pc = .ok (.invokevirtual idx, 3)) (hy : ev_Yv I' 1) (hm : (o, sz, 0, ci) ∈ lay) (hci : vwCl[ci]?.map (fun q => q.1) = some I'.1.cls) (hLL : 2 ≤ I'.2.2.1) (hR : ev_Rm I I') (hs : S.length ≤ 8) {ty : FieldType} (hr : I'.2.2.2.1 = some ty) (hL0 : [some (rv o), some v0] ++ List.replicate (I'.2.2.1 - 2) none = L0) (h : Ev I' lay 0 L0 [] σ Q') (k : ∀ r σ', ev_in r → Q' r σ' → Ev I lay (pc + 3) L (iv r :: S) σ' Q) : Ev I lay pc L (v0 :: rv o :: S) σ Q :=
  Ev.callVi (As := [v0]) hd hl hy hm hci rfl hLL hR hs hr (by rw [← hL0] at h; exact h) k
theorem Ev.Vi2 {v0 v1 : ev_V} {L0 : List (Option ev_V)} (hl : Cond.methodLink I.1.cls idx I'.1 ∈ ev_aw) (hd : decode I.2.1 pc = .ok (.invokevirtual idx, 3)) (hy : ev_Yv I' 2) (hm : (o, sz, 0, ci) ∈ lay) (hci : vwCl[ci]?.map (fun q => q.1) = some I'.1.cls) (hLL : 3 ≤ I'.2.2.1) (hR : ev_Rm I I') (hs : S.length ≤ 8) {ty : FieldType} (hr : I'.2.2.2.1 = some ty) (hL0 : [some (rv o), some v0, some v1] ++ List.replicate (I'.2.2.1 - 3) none = L0) (h : Ev I' lay 0 L0 [] σ Q') (k : ∀ r σ', ev_in r → Q' r σ' → Ev I lay (pc + 3) L (iv r :: S) σ' Q) : Ev I lay pc L (v1 :: v0 :: rv o :: S) σ Q :=
  Ev.callVi (As := [v0, v1]) hd hl hy hm hci rfl hLL hR hs hr (by rw [← hL0] at h; exact h) k
theorem Ev.Vi3 {v0 v1 v2 : ev_V} {L0 : List (Option ev_V)} (hl : Cond.methodLink I.1.cls idx I'.1 ∈ ev_aw) (hd : decode I.2.1 pc = .ok (.invokevirtual idx, 3)) (hy : ev_Yv I' 3) (hm : (o, sz, 0, ci) ∈ lay) (hci : vwCl[ci]?.map (fun q => q.1) = some I'.1.cls) (hLL : 4 ≤ I'.2.2.1) (hR : ev_Rm I I') (hs : S.length ≤ 8) {ty : FieldType} (hr : I'.2.2.2.1 = some ty) (hL0 : [some (rv o), some v0, some v1, some v2] ++ List.replicate (I'.2.2.1 - 4) none = L0) (h : Ev I' lay 0 L0 [] σ Q') (k : ∀ r σ', ev_in r → Q' r σ' → Ev I lay (pc + 3) L (iv r :: S) σ' Q) : Ev I lay pc L (v2 :: v1 :: v0 :: rv o :: S) σ Q :=
  Ev.callVi (As := [v0, v1, v2]) hd hl hy hm hci rfl hLL hR hs hr (by rw [← hL0] at h; exact h) k
theorem Ev.Vv0  {L0 : List (Option ev_V)} (hl : Cond.methodLink I.1.cls idx I'.1 ∈ ev_aw) (hd : decode I.2.1 pc = .ok (.invokevirtual idx, 3)) (hy : ev_Yv I' 0) (hm : (o, sz, 0, ci) ∈ lay) (hci : vwCl[ci]?.map (fun q => q.1) = some I'.1.cls) (hLL : 1 ≤ I'.2.2.1) (hR : ev_Rm I I') (hs : S.length ≤ 8) (hr : I'.2.2.2.1 = none) (hL0 : [some (rv o)] ++ List.replicate (I'.2.2.1 - 1) none = L0) (h : Ev I' lay 0 L0 [] σ Q') (k : ∀ σ', Q' 0 σ' → Ev I lay (pc + 3) L S σ' Q) : Ev I lay pc L (rv o :: S) σ Q :=
  Ev.callVv (As := []) hd hl hy hm hci rfl hLL hR hs hr (by rw [← hL0] at h; exact h) k
theorem Ev.Vv1 {v0 : ev_V} {L0 : List (Option ev_V)} (hl : Cond.methodLink I.1.cls idx I'.1 ∈ ev_aw) (hd : decode I.2.1 pc = .ok (.invokevirtual idx, 3)) (hy : ev_Yv I' 1) (hm : (o, sz, 0, ci) ∈ lay) (hci : vwCl[ci]?.map (fun q => q.1) = some I'.1.cls) (hLL : 2 ≤ I'.2.2.1) (hR : ev_Rm I I') (hs : S.length ≤ 8) (hr : I'.2.2.2.1 = none) (hL0 : [some (rv o), some v0] ++ List.replicate (I'.2.2.1 - 2) none = L0) (h : Ev I' lay 0 L0 [] σ Q') (k : ∀ σ', Q' 0 σ' → Ev I lay (pc + 3) L S σ' Q) : Ev I lay pc L (v0 :: rv o :: S) σ Q :=
  Ev.callVv (As := [v0]) hd hl hy hm hci rfl hLL hR hs hr (by rw [← hL0] at h; exact h) k
theorem Ev.Vv2 {v0 v1 : ev_V} {L0 : List (Option ev_V)} (hl : Cond.methodLink I.1.cls idx I'.1 ∈ ev_aw) (hd : decode I.2.1 pc = .ok (.invokevirtual idx, 3)) (hy : ev_Yv I' 2) (hm : (o, sz, 0, ci) ∈ lay) (hci : vwCl[ci]?.map (fun q => q.1) = some I'.1.cls) (hLL : 3 ≤ I'.2.2.1) (hR : ev_Rm I I') (hs : S.length ≤ 8) (hr : I'.2.2.2.1 = none) (hL0 : [some (rv o), some v0, some v1] ++ List.replicate (I'.2.2.1 - 3) none = L0) (h : Ev I' lay 0 L0 [] σ Q') (k : ∀ σ', Q' 0 σ' → Ev I lay (pc + 3) L S σ' Q) : Ev I lay pc L (v1 :: v0 :: rv o :: S) σ Q :=
  Ev.callVv (As := [v0, v1]) hd hl hy hm hci rfl hLL hR hs hr (by rw [← hL0] at h; exact h) k
theorem Ev.Vv3 {v0 v1 v2 : ev_V} {L0 : List (Option ev_V)} (hl : Cond.methodLink I.1.cls idx I'.1 ∈ ev_aw) (hd : decode I.2.1 pc = .ok (.invokevirtual idx, 3)) (hy : ev_Yv I' 3) (hm : (o, sz, 0, ci) ∈ lay) (hci : vwCl[ci]?.map (fun q => q.1) = some I'.1.cls) (hLL : 4 ≤ I'.2.2.1) (hR : ev_Rm I I') (hs : S.length ≤ 8) (hr : I'.2.2.2.1 = none) (hL0 : [some (rv o), some v0, some v1, some v2] ++ List.replicate (I'.2.2.1 - 4) none = L0) (h : Ev I' lay 0 L0 [] σ Q') (k : ∀ σ', Q' 0 σ' → Ev I lay (pc + 3) L S σ' Q) : Ev I lay pc L (v2 :: v1 :: v0 :: rv o :: S) σ Q :=
  Ev.callVv (As := [v0, v1, v2]) hd hl hy hm hci rfl hLL hR hs hr (by rw [← hL0] at h; exact h) k
theorem Ev.Si1 {v0 : ev_V} {L0 : List (Option ev_V)} (hl : Cond.methodLink I.1.cls idx I'.1 ∈ ev_aw) (hd : decode I.2.1 pc = .ok (.invokestatic idx, 3)) (hy : ev_Ys I' 1) (hLL : 1 ≤ I'.2.2.1) (hR : ev_Rm I I') (hs : S.length ≤ 8) {ty : FieldType} (hr : I'.2.2.2.1 = some ty) (hL0 : [some v0] ++ List.replicate (I'.2.2.1 - 1) none = L0) (h : Ev I' lay 0 L0 [] σ Q') (k : ∀ r σ', ev_in r → Q' r σ' → Ev I lay (pc + 3) L (iv r :: S) σ' Q) : Ev I lay pc L (v0 :: S) σ Q :=
  Ev.callSi (As := [v0]) hd hl hy rfl hLL hR hs hr (by rw [← hL0] at h; exact h) k
theorem Ev.Si2 {v0 v1 : ev_V} {L0 : List (Option ev_V)} (hl : Cond.methodLink I.1.cls idx I'.1 ∈ ev_aw) (hd : decode I.2.1 pc = .ok (.invokestatic idx, 3)) (hy : ev_Ys I' 2) (hLL : 2 ≤ I'.2.2.1) (hR : ev_Rm I I') (hs : S.length ≤ 8) {ty : FieldType} (hr : I'.2.2.2.1 = some ty) (hL0 : [some v0, some v1] ++ List.replicate (I'.2.2.1 - 2) none = L0) (h : Ev I' lay 0 L0 [] σ Q') (k : ∀ r σ', ev_in r → Q' r σ' → Ev I lay (pc + 3) L (iv r :: S) σ' Q) : Ev I lay pc L (v1 :: v0 :: S) σ Q :=
  Ev.callSi (As := [v0, v1]) hd hl hy rfl hLL hR hs hr (by rw [← hL0] at h; exact h) k
theorem Ev.Si3 {v0 v1 v2 : ev_V} {L0 : List (Option ev_V)} (hl : Cond.methodLink I.1.cls idx I'.1 ∈ ev_aw) (hd : decode I.2.1 pc = .ok (.invokestatic idx, 3)) (hy : ev_Ys I' 3) (hLL : 3 ≤ I'.2.2.1) (hR : ev_Rm I I') (hs : S.length ≤ 8) {ty : FieldType} (hr : I'.2.2.2.1 = some ty) (hL0 : [some v0, some v1, some v2] ++ List.replicate (I'.2.2.1 - 3) none = L0) (h : Ev I' lay 0 L0 [] σ Q') (k : ∀ r σ', ev_in r → Q' r σ' → Ev I lay (pc + 3) L (iv r :: S) σ' Q) : Ev I lay pc L (v2 :: v1 :: v0 :: S) σ Q :=
  Ev.callSi (As := [v0, v1, v2]) hd hl hy rfl hLL hR hs hr (by rw [← hL0] at h; exact h) k
theorem Ev.Sv1 {v0 : ev_V} {L0 : List (Option ev_V)} (hl : Cond.methodLink I.1.cls idx I'.1 ∈ ev_aw) (hd : decode I.2.1 pc = .ok (.invokestatic idx, 3)) (hy : ev_Ys I' 1) (hLL : 1 ≤ I'.2.2.1) (hR : ev_Rm I I') (hs : S.length ≤ 8) (hr : I'.2.2.2.1 = none) (hL0 : [some v0] ++ List.replicate (I'.2.2.1 - 1) none = L0) (h : Ev I' lay 0 L0 [] σ Q') (k : ∀ σ', Q' 0 σ' → Ev I lay (pc + 3) L S σ' Q) : Ev I lay pc L (v0 :: S) σ Q :=
  Ev.callSv (As := [v0]) hd hl hy rfl hLL hR hs hr (by rw [← hL0] at h; exact h) k
theorem Ev.Sv2 {v0 v1 : ev_V} {L0 : List (Option ev_V)} (hl : Cond.methodLink I.1.cls idx I'.1 ∈ ev_aw) (hd : decode I.2.1 pc = .ok (.invokestatic idx, 3)) (hy : ev_Ys I' 2) (hLL : 2 ≤ I'.2.2.1) (hR : ev_Rm I I') (hs : S.length ≤ 8) (hr : I'.2.2.2.1 = none) (hL0 : [some v0, some v1] ++ List.replicate (I'.2.2.1 - 2) none = L0) (h : Ev I' lay 0 L0 [] σ Q') (k : ∀ σ', Q' 0 σ' → Ev I lay (pc + 3) L S σ' Q) : Ev I lay pc L (v1 :: v0 :: S) σ Q :=
  Ev.callSv (As := [v0, v1]) hd hl hy rfl hLL hR hs hr (by rw [← hL0] at h; exact h) k
theorem Ev.Sv3 {v0 v1 v2 : ev_V} {L0 : List (Option ev_V)} (hl : Cond.methodLink I.1.cls idx I'.1 ∈ ev_aw) (hd : decode I.2.1 pc = .ok (.invokestatic idx, 3)) (hy : ev_Ys I' 3) (hLL : 3 ≤ I'.2.2.1) (hR : ev_Rm I I') (hs : S.length ≤ 8) (hr : I'.2.2.2.1 = none) (hL0 : [some v0, some v1, some v2] ++ List.replicate (I'.2.2.1 - 3) none = L0) (h : Ev I' lay 0 L0 [] σ Q') (k : ∀ σ', Q' 0 σ' → Ev I lay (pc + 3) L S σ' Q) : Ev I lay pc L (v2 :: v1 :: v0 :: S) σ Q :=
  Ev.callSv (As := [v0, v1, v2]) hd hl hy rfl hLL hR hs hr (by rw [← hL0] at h; exact h) k
theorem Ev.Ni1 {v0 : ev_V} {L0 : List (Option ev_V)} {host : String} (hl : Cond.methodLinkNest I.1.cls idx I'.1 host ∈ ev_nw) (hd : decode I.2.1 pc = .ok (.invokestatic idx, 3)) (hy : ev_Ys I' 1) (hLL : 1 ≤ I'.2.2.1) (hR : ev_Rm I I') (hs : S.length ≤ 8) {ty : FieldType} (hr : I'.2.2.2.1 = some ty) (hL0 : [some v0] ++ List.replicate (I'.2.2.1 - 1) none = L0) (h : Ev I' lay 0 L0 [] σ Q') (k : ∀ r σ', ev_in r → Q' r σ' → Ev I lay (pc + 3) L (iv r :: S) σ' Q) : Ev I lay pc L (v0 :: S) σ Q :=
  Ev.callNi (As := [v0]) hd hl hy rfl hLL hR hs hr (by rw [← hL0] at h; exact h) k
theorem Ev.Ni2 {v0 v1 : ev_V} {L0 : List (Option ev_V)} {host : String} (hl : Cond.methodLinkNest I.1.cls idx I'.1 host ∈ ev_nw) (hd : decode I.2.1 pc = .ok (.invokestatic idx, 3)) (hy : ev_Ys I' 2) (hLL : 2 ≤ I'.2.2.1) (hR : ev_Rm I I') (hs : S.length ≤ 8) {ty : FieldType} (hr : I'.2.2.2.1 = some ty) (hL0 : [some v0, some v1] ++ List.replicate (I'.2.2.1 - 2) none = L0) (h : Ev I' lay 0 L0 [] σ Q') (k : ∀ r σ', ev_in r → Q' r σ' → Ev I lay (pc + 3) L (iv r :: S) σ' Q) : Ev I lay pc L (v1 :: v0 :: S) σ Q :=
  Ev.callNi (As := [v0, v1]) hd hl hy rfl hLL hR hs hr (by rw [← hL0] at h; exact h) k
theorem Ev.Ni3 {v0 v1 v2 : ev_V} {L0 : List (Option ev_V)} {host : String} (hl : Cond.methodLinkNest I.1.cls idx I'.1 host ∈ ev_nw) (hd : decode I.2.1 pc = .ok (.invokestatic idx, 3)) (hy : ev_Ys I' 3) (hLL : 3 ≤ I'.2.2.1) (hR : ev_Rm I I') (hs : S.length ≤ 8) {ty : FieldType} (hr : I'.2.2.2.1 = some ty) (hL0 : [some v0, some v1, some v2] ++ List.replicate (I'.2.2.1 - 3) none = L0) (h : Ev I' lay 0 L0 [] σ Q') (k : ∀ r σ', ev_in r → Q' r σ' → Ev I lay (pc + 3) L (iv r :: S) σ' Q) : Ev I lay pc L (v2 :: v1 :: v0 :: S) σ Q :=
  Ev.callNi (As := [v0, v1, v2]) hd hl hy rfl hLL hR hs hr (by rw [← hL0] at h; exact h) k
end EVC
section EVX
variable {I : ev_I} {lay : ev_Y} {pc : Nat} {L : List (Option ev_V)} {S : List ev_V} {σ : ev_M} {Q : Int → ev_M → Prop} {a b : Int} {idx : Nat}
theorem Ev.mmax (hd : decode I.2.1 pc = .ok (.invokestatic idx, 3)) (hl : Cond.methodLink I.1.cls idx Lib.Math.max.name ∈ ev_aw) (h1 : Cond.static Lib.Math.max.name ∈ ev_aw) (h2 : Cond.initialized "java/lang/Math" ∈ ev_aw) (h3 : Cond.code Lib.Math.max.name Lib.Math.max.code 2 (some .int) ∈ ev_aw) (hf : 1 ≤ I.2.2.2.2.frames) (hlo : S.length + 13 ≤ I.2.2.2.2.locals) (k : Ev I lay (pc + 3) L (iv (if a < b then b else a) :: S) σ Q) : Ev I lay pc L (iv b :: iv a :: S) σ Q := by
  intro p l e s m args below meth c E ls H locs X hL hS hW hV
  obtain ⟨x1, x2, x3, x4, x5, x6, x7⟩ := id X
  have hb := ev_okh hS
  have ha := ev_okh (ev_okt hS)
  have hok : ev_in (if a < b then b else a) := by split <;> assumption
  have kk := k p l e s m args below meth c E ls H locs X hL (ev_okc (ev_oki hok) (ev_okt (ev_okt hS))) hW hV
  refine va_mmax (x := Int32.ofInt a) (y := Int32.ofInt b) (rest := S.map (ev_vl E.1)) x1 x2 (x3.trans hL.1.symm) x6 (ev_hts x7 hl) (ev_hts x7 h1) (ev_hts x7 h2) (ev_hts x7 h3) hf (by rw [ev_sumc]; exact hlo) (Nat.zero_le _) (Nat.zero_le _) hd ?_
  have e1 : (if Int32.ofInt a < Int32.ofInt b then Int32.ofInt b else Int32.ofInt a) = Int32.ofInt (if a < b then b else a) := by
    by_cases h : a < b
    · rw [if_pos h, if_pos ((ev_lt ha hb).mpr h)]
    · rw [if_neg h, if_neg (fun z => h ((ev_lt ha hb).mp z))]
  rw [e1]
  exact kk
theorem Ev.mmin (hd : decode I.2.1 pc = .ok (.invokestatic idx, 3)) (hl : Cond.methodLink I.1.cls idx Lib.Math.min.name ∈ ev_aw) (h1 : Cond.static Lib.Math.min.name ∈ ev_aw) (h2 : Cond.initialized "java/lang/Math" ∈ ev_aw) (h3 : Cond.code Lib.Math.min.name Lib.Math.min.code 2 (some .int) ∈ ev_aw) (hf : 1 ≤ I.2.2.2.2.frames) (hlo : S.length + 13 ≤ I.2.2.2.2.locals) (k : Ev I lay (pc + 3) L (iv (if b < a then b else a) :: S) σ Q) : Ev I lay pc L (iv b :: iv a :: S) σ Q := by
  intro p l e s m args below meth c E ls H locs X hL hS hW hV
  obtain ⟨x1, x2, x3, x4, x5, x6, x7⟩ := id X
  have hb := ev_okh hS
  have ha := ev_okh (ev_okt hS)
  have hok : ev_in (if b < a then b else a) := by split <;> assumption
  have kk := k p l e s m args below meth c E ls H locs X hL (ev_okc (ev_oki hok) (ev_okt (ev_okt hS))) hW hV
  refine va_mmin (x := Int32.ofInt a) (y := Int32.ofInt b) (rest := S.map (ev_vl E.1)) x1 x2 (x3.trans hL.1.symm) x6 (ev_hts x7 hl) (ev_hts x7 h1) (ev_hts x7 h2) (ev_hts x7 h3) hf (by rw [ev_sumc]; exact hlo) (Nat.zero_le _) (Nat.zero_le _) hd ?_
  have e1 : (if Int32.ofInt b < Int32.ofInt a then Int32.ofInt b else Int32.ofInt a) = Int32.ofInt (if b < a then b else a) := by
    by_cases h : b < a
    · rw [if_pos h, if_pos ((ev_lt hb ha).mpr h)]
    · rw [if_neg h, if_neg (fun z => h ((ev_lt hb ha).mp z))]
  rw [e1]
  exact kk
end EVX
