/-! constructors -/
def kP (E : ev_E) (sz : Nat) (ws : va_W) (U : State) : Prop := U.heap.size = sz ∧ va_P E.2.1 vwCl ws U.heap ∧ va_K E.2.1 vwCl (ev_tys E) U ∧ (∀ w ∈ ev_nw, va_Nw w U) ∧ va_AO "TalkBus$Device" U ∧ va_D (fun _ => True) ws
def kB (E : ev_E) (A : Nat → Prop) (ws : va_W) (t : State) : Prop := va_P E.2.1 vwCl ws t.heap ∧ va_D A ws
theorem kP_blind {E : ev_E} {sz : Nat} {ws : va_W} {av : List Value} : FrameBlind (va_Pc av (kP E sz ws)) := by
  intro a U g mk h
  obtain ⟨h1, h2, h3, h4, h5, h6, h7⟩ := h
  exact ⟨h1, h2, h3, va_K.moved (u := U) (U := U.calling g mk a) (Vm.Alike.refl U.vm) h4, ev_nw_same (u := U) (U := U.calling g mk a) rfl h5, va_AO.moved (u := U) (U := U.calling g mk a) (Vm.Alike.refl U.vm) h6, h7⟩
theorem va_joinA {A0 : Nat → Prop} {D : va_G} {cl : List vw_C} {wc wr w1 : va_W} {H H1 : Heap} (hP : va_P D cl (wr ++ wc) H) (hD : va_D A0 (wr ++ wc))
    (hk : ∀ q : Nat, q < H.size → ¬ va_A wc H.size q → H1[q]? = H[q]?) (hF : ∀ q, va_A wc H.size q → A0 q) (hP1 : va_P D cl w1 H1) (hD1 : va_D (va_A wc H.size) w1) : va_P D cl (wr ++ w1) H1 ∧ va_D A0 (wr ++ w1) := by
  have inL : ∀ (k : Nat) (q : Nat × va_E), wr[k]? = some q → k < wr.length ∧ (wr ++ wc)[k]? = some q := fun k q h => by
    have hl := (List.getElem?_eq_some_iff.mp h).1
    exact ⟨hl, by rw [List.getElem?_append_left hl]; exact h⟩
  have inR : ∀ (k : Nat) (q : Nat × va_E), wc[k]? = some q → (wr ++ wc)[wr.length + k]? = some q := fun k q h => by
    rw [List.getElem?_append_right (by omega), show wr.length + k - wr.length = k by omega]; exact h
  have apart : ∀ (k : Nat) (q : Nat × va_E), wr[k]? = some q → q.1 < H.size ∧ ¬ va_A wc H.size q.1 := by
    intro k q hq
    obtain ⟨hl, hq2⟩ := inL k q hq
    have hlt := (hP k q hq2).lt
    refine ⟨hlt, fun h => ?_⟩
    rcases h with ⟨k2, e, h⟩ | h
    · have := hD.1 k (wr.length + k2) q (q.1, e) hq2 (inR k2 (q.1, e) h) rfl
      omega
    · omega
  refine ⟨va_P.app (fun k q hq => ?_) hP1, va_D.app ⟨fun i j a b hi hj hab => hD.1 i j a b (inL i a hi).2 (inL j b hj).2 hab, fun k q hq => hD.2 k q (inL k q hq).2⟩ (hD1.weaken (fun k q _ h => hF q.1 h)) (fun i j x y hx hy hxy => ?_)⟩
  · obtain ⟨g1, g2⟩ := apart k q hq
    exact (hP k q (inL k q hq).2).kept (hk q.1 g1 g2)
  · exact (apart i x hx).2 (by rw [hxy]; exact hD1.2 j y hy)
theorem kt_int {E : ev_E} {s : State} {cA : ClassId} (hK : va_K E.2.1 vwCl (ev_tys E ++ [(cA, .int)]) s) : cA = E.2.2.1 := by
  have h1 := (hK.2 3 (cA, .int) rfl).2
  have h2 := (hK.2 0 (E.2.2.1, .int) rfl).2
  exact Option.some.inj (h1.symm.trans h2)
theorem kt_char {E : ev_E} {s : State} {cA : ClassId} (hK : va_K E.2.1 vwCl (ev_tys E ++ [(cA, .char)]) s) : cA = E.2.2.2.1 := by
  have h1 := (hK.2 3 (cA, .char) rfl).2
  have h2 := (hK.2 1 (E.2.2.2.1, .char) rfl).2
  exact Option.some.inj (h1.symm.trans h2)
theorem kt_dev {E : ev_E} {s : State} {cA : ClassId} (hK : va_K E.2.1 vwCl (ev_tys E ++ [(cA, .object "TalkBus$Device")]) s) : cA = E.2.2.2.2 := by
  obtain ⟨_, _, -, -, -, h1⟩ := (hK.2 3 (cA, .object "TalkBus$Device") rfl).2
  obtain ⟨_, _, -, -, -, h2⟩ := (hK.2 2 (E.2.2.2.2, .object "TalkBus$Device") rfl).2
  exact Option.some.inj (h1.symm.trans h2)
theorem kw (I : ev_I) {args : Array Value} {s : State} (hts : ∀ w ∈ ev_ts I, w.before args s = true) {w : Cond} (i : Nat) (h : lw_tbl[i]? = some w) (g : goodWord w = true) : w.before args s = true := hts w (ev_aw_ts (ev_aw_of i h g))
theorem kgood {I I' : ev_I} (hc : Cond.code I'.1 I'.2.1 I'.2.2.1 I'.2.2.2.1 ∈ ev_aw) : GoodIn (ev_ts I) (ev_ts I') := by
  have g : ∀ w ∈ ev_aw, w ∈ ev_ts I ∧ ((w.onTables && w.keeps) = true ∨ ∃ ty, w = .arrayClass ty) := fun w h => ⟨ev_aw_ts h, good_of_word (List.mem_filter.mp h).2⟩
  intro w hw
  rcases List.mem_cons.mp hw with rfl | h
  · exact g _ hc
  · exact g _ h
section KT
variable {p : Program} {l : Launch} {e : Env} {R : Room} {s : State} {m : MethodId} {args : Array Value} {below : List Frame} {meth : Method} {c : Code} {H : Heap} {locs : List Loc} {cells slots : Nat} {Q : State → Prop} {pc : Nat} {ls : Array Slot} {rest : List Value} {A : Nat → Prop}
/-- a nest mate's private constructor, on the object made last -/
theorem kt_ctor {S : Type} {I I' : ev_I} {E : ev_E} {idx mc ms h0 : Nat} {host : String} {rm : Room} {wr : va_W} {e0 : va_E} {w1 : S → va_W} {post : S → Prop}
    (hx : p.tables.exec = Jvm.exec) (hb : c.code = I.2.1) (hml : c.maxLocals = I.2.2.1) (hown : s.vm.findClass I.1.cls = some m.cls) (hts : ∀ w ∈ ev_ts I, w.before args s = true) (hls : ls.size = I.2.2.1)
    (hd : decode I.2.1 pc = .ok (.invokespecial idx, 3)) (hl : Cond.methodLinkNest I.1.cls idx I'.1 host ∈ ev_nw) (hy : (I'.1.cls ≠ "java/lang/invoke/MethodHandle" ∧ I'.1.cls ≠ "java/lang/invoke/VarHandle" ∧ (parseMethodDescriptor I'.1.desc).map (fun d => d.parameters.length) = some 0) ∧ I'.1.name = "<init>") (hret : I'.2.2.2.1 = none)
    (hi : Cond.initialized I'.1.cls ∈ ev_aw) (hm : Cond.instanceMethod I'.1 ∈ ev_aw) (hc : Cond.code I'.1 I'.2.1 I'.2.2.1 I'.2.2.2.1 ∈ ev_aw)
    (hM : Met l I'.1 (ev_ts I') rm (va_Pc [.ref h0] (kP E H.size [(h0, e0)])) (va_Qv post (fun u t => kB E (va_A [(h0, e0)] H.size) (w1 u) t) (va_A [(h0, e0)] H.size)) mc ms (va_A [(h0, e0)] H.size)) (hrc : rm.cells = mc) (hrs : rm.slots = ms)
    (hR : rm.frames + 1 ≤ R.frames ∧ 8 + (I'.2.2.1 + 11) + rm.locals ≤ R.locals) (hst : (rest.map fun v => v.category).sum ≤ 8) (hf : cells + mc ≤ R.cells ∧ slots + ms ≤ R.slots)
    (hK : va_K E.2.1 vwCl (ev_tys E) s) (hN : ∀ w ∈ ev_nw, va_Nw w s) (hO : va_AO "TalkBus$Device" s) (hP : va_P E.2.1 vwCl (wr ++ [(h0, e0)]) H) (hD : va_D A (wr ++ [(h0, e0)])) (hS : va_S A s.heap H locs) (hA : ∀ q, s.heap.size ≤ q → A q)
    (kk : ∀ (u : S) (H1 : Heap) (locs1 : List Loc), post u → va_P E.2.1 vwCl (wr ++ w1 u) H1 → va_D A (wr ++ w1 u) → va_S A s.heap H1 locs1 → W p l e R s m args below meth c H1 locs1 (cells + mc) (slots + ms) Q (F0 m (pc + 3) ls rest)) :
    W p l e R s m args below meth c H locs cells slots Q (F0 m pc ls (.ref h0 :: rest)) := by
  have hPc : va_P E.2.1 vwCl [(h0, e0)] H := fun k q hk => by
    have := hP (wr.length + k) q (by rw [List.getElem?_append_right (by omega), show wr.length + k - wr.length = k by omega]; exact hk)
    exact this
  have hDc : va_D (fun _ => True) [(h0, e0)] := ⟨fun i j a b hi hj _ => by
    have h1 := (List.getElem?_eq_some_iff.mp hi).1
    have h2 := (List.getElem?_eq_some_iff.mp hj).1
    simp at h1 h2
    omega, fun _ _ _ => trivial⟩
  have hFc : ∀ q, va_A [(h0, e0)] H.size q → A q := by
    intro q h
    rcases h with ⟨k, e, h⟩ | h
    · exact hD.2 (wr.length + k) (q, e) (by rw [List.getElem?_append_right (by omega), show wr.length + k - wr.length = k by omega]; exact h)
    · exact hA q (Nat.le_trans hS.1 h)
  have hcd : Cond.code I'.1 I'.2.1 I'.2.2.1 none ∈ ev_aw := by rw [hret] at hc; exact hc
  have hw : ev_ts I' = Cond.code I'.1 I'.2.1 I'.2.2.1 none :: ev_aw := by unfold ev_ts; rw [hret]
  have hrun := va_runIN (p := p) (l := l) (e := e) (R := R) (below := below) (meth := meth) (locs := locs) (cells := cells) (slots := slots) (g := F0 m pc ls (.ref h0 :: rest)) (As := []) (rest := rest) ⟨hx, hb, hml, hown, hts⟩ hM ⟨va_cnB 0 hts (kgood hc) hw hrc hrs (hN _ hl) (ev_hts hts hi) hy.1 hR, hy.2, ev_hts hts hm⟩ ⟨kP_blind, fun U hU hW => ⟨rfl, by rw [hU], by rw [hU]; exact hPc, va_K.moved hW.alike hK, ev_nw_moved hW hN, hO.moved hW.alike, hDc⟩⟩ rfl rfl hls rfl (lv_room hst) hd hf
  refine va_callv hrun hS (fun q _ h => hFc q h) hFc (fun u t H1 locs1 ht hvm hp hB hz hk hS1 => ?_)
  obtain ⟨hP1, hD1⟩ := hB
  rw [ht] at hP1
  obtain ⟨hP2, hD2⟩ := va_joinA hP hD hk hFc hP1 hD1
  exact kk u H1 locs1 hp hP2 hD2 hS1
end KT
def kRX0 : Room := { frames := 1, cells := 1, slots := 12, locals := 20 }
set_option maxHeartbeats 4000000 in
set_option maxRecDepth 100000 in
/-- ByteRow(): a row of 12 -/
theorem c_X0_init (l : Launch) (E : ev_E) (h0 sz : Nat) : Met l yX0_init (ev_ts jX0_init) kRX0 (va_Pc [.ref h0] (kP E sz [(h0, .inr (0, [.null, .int 0]))])) (va_Qv (fun _ : Nat => True) (fun u t => kB E (va_A [(h0, .inr (0, [.null, .int 0]))] sz) ([(h0, .inr (0, [.ref u, .int 0])), (u, .inl (E.2.2.1, 12, .inl (fun _ => 0)))]) t) (va_A [(h0, .inr (0, [.null, .int 0]))] sz)) 1 12 (va_A [(h0, .inr (0, [.null, .int 0]))] sz) := by
  refine Met.ofW (cc := cX0_init) (maxL := 1) (ret := none) (by decide) rfl ?_
  intro p e s m args below meth c s₁ B hml hv
  obtain ⟨rfl, hsz, hP, hK, hN, hO, hD0⟩ := hv
  have hx := B.exec
  have hb := B.bytes
  have hr := B.returns
  have hts := atoms_spec (ws := ev_ts jX0_init) B.pre
  have hown : s.vm.findClass RX0 = some m.cls := findClass_of_methodNamed B.named
  have hlocks := B.notSynchronized
  have hin : meth.name = "<init>" := (name_of_methodNamed B.named B.method).1
  subst hsz
  have hD := hD0.self (sz := s.heap.size)
  generalize hAe : va_A [(h0, .inr (0, [.null, .int 0]))] s.heap.size = A at hD ⊢
  have hA : ∀ q : Nat, s.heap.size ≤ q → A q := fun q h => by rw [← hAe]; exact Or.inr h
  have hS : va_S A s.heap s.heap [] := va_S.rf
  have hl := lv_entry ([.ref h0]) (n := 1) (Nat.le_of_ble_eq_true rfl)
  rw [lg_entry_eq]
  generalize (lg_sl ([.ref h0]) ++ List.replicate (1 - (lg_sl ([.ref h0])).length) Slot.unset).toArray = ls at hl ⊢
  have hl : lv_has ls 1 [(0, .ref h0)] := hl
  refine lv_aload_n hx hb dX0_init_0 rfl (lv_at hl 0 rfl) ?_
  refine W.objInit hx hb hown (kw _ hts 111 (by decide +kernel) rfl) (kw _ hts 73 (by decide +kernel) rfl) (kw _ hts 74 (by decide +kernel) rfl) rfl (by rw [hml]; exact hl.1) rfl dX0_init_1 (Nat.le_of_ble_eq_true rfl) (Nat.le_of_ble_eq_true rfl) ?_
  refine W.eq (g2 := F0 m 4 ls []) rfl ?_
  refine lv_aload_n hx hb dX0_init_4 rfl (lv_at hl 0 rfl) ?_
  refine lv_bipush (v := 12) hx hb dX0_init_5 (by decide) ?_
  refine va_newa (atype := .int) (N' := 12) (a0 := (12, .inl (fun _ => 0))) hx hb (kw _ hts 98 (by decide +kernel) rfl) rfl hK hP hD hS hA (fun cA => rfl) (by decide) (by decide) (by decide) (Nat.le_of_ble_eq_true rfl) (Nat.le_of_ble_eq_true rfl) dX0_init_7 (fun q1 cA H hKa hP hD hS => ?_)
  obtain rfl := kt_int hKa
  clear hKa
  have hP : va_P E.2.1 vwCl [(h0, .inr (0, [.null, .int 0])), (q1, .inl (E.2.2.1, 12, .inl (fun _ => 0)))] H := hP
  have hD : va_D A [(h0, .inr (0, [.null, .int 0])), (q1, .inl (E.2.2.1, 12, .inl (fun _ => 0)))] := hD
  refine va_putF (D := E.2.1) (ci := 0) (v := .ref q1) (ty := (.array .int)) (C := RX0) (T := TX0) (N := 2) hx hb hts (fun w h => ev_aw_ts (cl_0.2.1 w h)) tyX0 tyX0_ok nmX0 hown hK hP hD hS 0 rfl rfl 0 (by decide) (kw _ hts 112 (by decide +kernel) rfl) (fun _ h9 => h9) rfl hin rfl (by decide +kernel) rfl rfl (Nat.le_of_ble_eq_true rfl) dX0_init_9 (fun H locs hP hD hS => ?_)
  have hP : va_P E.2.1 vwCl [(h0, .inr (0, [.ref q1, .int 0])), (q1, .inl (E.2.2.1, 12, .inl (fun _ => 0)))] H := hP
  have hD : va_D A [(h0, .inr (0, [.ref q1, .int 0])), (q1, .inl (E.2.2.1, 12, .inl (fun _ => 0)))] := hD
  exact W.vret hx hb hr (fun t ht hW => ⟨⟨q1, rfl, trivial, by rw [ht]; exact hP, hD⟩, hS.F ht⟩) hS.2.2 dX0_init_12
def kRX1 : Room := { frames := 1, cells := 3, slots := 48, locals := 20 }
set_option maxHeartbeats 4000000 in
set_option maxRecDepth 100000 in
/-- CommandLog(): three rows of 16 -/
theorem c_X1_init (l : Launch) (E : ev_E) (h0 sz : Nat) : Met l yX1_init (ev_ts jX1_init) kRX1 (va_Pc [.ref h0] (kP E sz [(h0, .inr (1, [.null, .null, .null, .int 0, .int 0]))])) (va_Qv (fun _ : Nat × Nat × Nat => True) (fun u t => kB E (va_A [(h0, .inr (1, [.null, .null, .null, .int 0, .int 0]))] sz) ([(h0, .inr (1, [.ref u.1, .ref u.2.1, .ref u.2.2, .int 0, .int 0])), (u.1, .inl (E.2.2.1, 16, .inl (fun _ => 0))), (u.2.1, .inl (E.2.2.1, 16, .inl (fun _ => 0))), (u.2.2, .inl (E.2.2.1, 16, .inl (fun _ => 0)))]) t) (va_A [(h0, .inr (1, [.null, .null, .null, .int 0, .int 0]))] sz)) 3 48 (va_A [(h0, .inr (1, [.null, .null, .null, .int 0, .int 0]))] sz) := by
  refine Met.ofW (cc := cX1_init) (maxL := 1) (ret := none) (by decide) rfl ?_
  intro p e s m args below meth c s₁ B hml hv
  obtain ⟨rfl, hsz, hP, hK, hN, hO, hD0⟩ := hv
  have hx := B.exec
  have hb := B.bytes
  have hr := B.returns
  have hts := atoms_spec (ws := ev_ts jX1_init) B.pre
  have hown : s.vm.findClass RX1 = some m.cls := findClass_of_methodNamed B.named
  have hlocks := B.notSynchronized
  have hin : meth.name = "<init>" := (name_of_methodNamed B.named B.method).1
  subst hsz
  have hD := hD0.self (sz := s.heap.size)
  generalize hAe : va_A [(h0, .inr (1, [.null, .null, .null, .int 0, .int 0]))] s.heap.size = A at hD ⊢
  have hA : ∀ q : Nat, s.heap.size ≤ q → A q := fun q h => by rw [← hAe]; exact Or.inr h
  have hS : va_S A s.heap s.heap [] := va_S.rf
  have hl := lv_entry ([.ref h0]) (n := 1) (Nat.le_of_ble_eq_true rfl)
  rw [lg_entry_eq]
  generalize (lg_sl ([.ref h0]) ++ List.replicate (1 - (lg_sl ([.ref h0])).length) Slot.unset).toArray = ls at hl ⊢
  have hl : lv_has ls 1 [(0, .ref h0)] := hl
  refine lv_aload_n hx hb dX1_init_0 rfl (lv_at hl 0 rfl) ?_
  refine W.objInit hx hb hown (kw _ hts 197 (by decide +kernel) rfl) (kw _ hts 73 (by decide +kernel) rfl) (kw _ hts 74 (by decide +kernel) rfl) rfl (by rw [hml]; exact hl.1) rfl dX1_init_1 (Nat.le_of_ble_eq_true rfl) (Nat.le_of_ble_eq_true rfl) ?_
  refine W.eq (g2 := F0 m 4 ls []) rfl ?_
  refine lv_aload_n hx hb dX1_init_4 rfl (lv_at hl 0 rfl) ?_
  refine lv_bipush (v := 16) hx hb dX1_init_5 (by decide) ?_
  refine va_newa (atype := .int) (N' := 16) (a0 := (16, .inl (fun _ => 0))) hx hb (kw _ hts 98 (by decide +kernel) rfl) rfl hK hP hD hS hA (fun cA => rfl) (by decide) (by decide) (by decide) (Nat.le_of_ble_eq_true rfl) (Nat.le_of_ble_eq_true rfl) dX1_init_7 (fun q1 cA H hKa hP hD hS => ?_)
  obtain rfl := kt_int hKa
  clear hKa
  have hP : va_P E.2.1 vwCl [(h0, .inr (1, [.null, .null, .null, .int 0, .int 0])), (q1, .inl (E.2.2.1, 16, .inl (fun _ => 0)))] H := hP
  have hD : va_D A [(h0, .inr (1, [.null, .null, .null, .int 0, .int 0])), (q1, .inl (E.2.2.1, 16, .inl (fun _ => 0)))] := hD
  refine va_putF (D := E.2.1) (ci := 1) (v := .ref q1) (ty := (.array .int)) (C := RX1) (T := TX1) (N := 5) hx hb hts (fun w h => ev_aw_ts (cl_1.2.1 w h)) tyX1 tyX1_ok nmX1 hown hK hP hD hS 0 rfl rfl 0 (by decide) (kw _ hts 198 (by decide +kernel) rfl) (fun _ h9 => h9) rfl hin rfl (by decide +kernel) rfl rfl (Nat.le_of_ble_eq_true rfl) dX1_init_9 (fun H locs hP hD hS => ?_)
  have hP : va_P E.2.1 vwCl [(h0, .inr (1, [.ref q1, .null, .null, .int 0, .int 0])), (q1, .inl (E.2.2.1, 16, .inl (fun _ => 0)))] H := hP
  have hD : va_D A [(h0, .inr (1, [.ref q1, .null, .null, .int 0, .int 0])), (q1, .inl (E.2.2.1, 16, .inl (fun _ => 0)))] := hD
  refine lv_aload_n hx hb dX1_init_12 rfl (lv_at hl 0 rfl) ?_
  refine lv_bipush (v := 16) hx hb dX1_init_13 (by decide) ?_
  refine va_newa (atype := .int) (N' := 16) (a0 := (16, .inl (fun _ => 0))) hx hb (kw _ hts 98 (by decide +kernel) rfl) rfl hK hP hD hS hA (fun cA => rfl) (by decide) (by decide) (by decide) (Nat.le_of_ble_eq_true rfl) (Nat.le_of_ble_eq_true rfl) dX1_init_15 (fun q2 cA H hKa hP hD hS => ?_)
  obtain rfl := kt_int hKa
  clear hKa
  have hP : va_P E.2.1 vwCl [(h0, .inr (1, [.ref q1, .null, .null, .int 0, .int 0])), (q1, .inl (E.2.2.1, 16, .inl (fun _ => 0))), (q2, .inl (E.2.2.1, 16, .inl (fun _ => 0)))] H := hP
  have hD : va_D A [(h0, .inr (1, [.ref q1, .null, .null, .int 0, .int 0])), (q1, .inl (E.2.2.1, 16, .inl (fun _ => 0))), (q2, .inl (E.2.2.1, 16, .inl (fun _ => 0)))] := hD
  refine va_putF (D := E.2.1) (ci := 1) (v := .ref q2) (ty := (.array .int)) (C := RX1) (T := TX1) (N := 5) hx hb hts (fun w h => ev_aw_ts (cl_1.2.1 w h)) tyX1 tyX1_ok nmX1 hown hK hP hD hS 0 rfl rfl 1 (by decide) (kw _ hts 199 (by decide +kernel) rfl) (fun _ h9 => h9) rfl hin rfl (by decide +kernel) rfl rfl (Nat.le_of_ble_eq_true rfl) dX1_init_17 (fun H locs hP hD hS => ?_)
  have hP : va_P E.2.1 vwCl [(h0, .inr (1, [.ref q1, .ref q2, .null, .int 0, .int 0])), (q1, .inl (E.2.2.1, 16, .inl (fun _ => 0))), (q2, .inl (E.2.2.1, 16, .inl (fun _ => 0)))] H := hP
  have hD : va_D A [(h0, .inr (1, [.ref q1, .ref q2, .null, .int 0, .int 0])), (q1, .inl (E.2.2.1, 16, .inl (fun _ => 0))), (q2, .inl (E.2.2.1, 16, .inl (fun _ => 0)))] := hD
  refine lv_aload_n hx hb dX1_init_20 rfl (lv_at hl 0 rfl) ?_
  refine lv_bipush (v := 16) hx hb dX1_init_21 (by decide) ?_
  refine va_newa (atype := .int) (N' := 16) (a0 := (16, .inl (fun _ => 0))) hx hb (kw _ hts 98 (by decide +kernel) rfl) rfl hK hP hD hS hA (fun cA => rfl) (by decide) (by decide) (by decide) (Nat.le_of_ble_eq_true rfl) (Nat.le_of_ble_eq_true rfl) dX1_init_23 (fun q3 cA H hKa hP hD hS => ?_)
  obtain rfl := kt_int hKa
  clear hKa
  have hP : va_P E.2.1 vwCl [(h0, .inr (1, [.ref q1, .ref q2, .null, .int 0, .int 0])), (q1, .inl (E.2.2.1, 16, .inl (fun _ => 0))), (q2, .inl (E.2.2.1, 16, .inl (fun _ => 0))), (q3, .inl (E.2.2.1, 16, .inl (fun _ => 0)))] H := hP
  have hD : va_D A [(h0, .inr (1, [.ref q1, .ref q2, .null, .int 0, .int 0])), (q1, .inl (E.2.2.1, 16, .inl (fun _ => 0))), (q2, .inl (E.2.2.1, 16, .inl (fun _ => 0))), (q3, .inl (E.2.2.1, 16, .inl (fun _ => 0)))] := hD
  refine va_putF (D := E.2.1) (ci := 1) (v := .ref q3) (ty := (.array .int)) (C := RX1) (T := TX1) (N := 5) hx hb hts (fun w h => ev_aw_ts (cl_1.2.1 w h)) tyX1 tyX1_ok nmX1 hown hK hP hD hS 0 rfl rfl 2 (by decide) (kw _ hts 200 (by decide +kernel) rfl) (fun _ h9 => h9) rfl hin rfl (by decide +kernel) rfl rfl (Nat.le_of_ble_eq_true rfl) dX1_init_25 (fun H locs hP hD hS => ?_)
  have hP : va_P E.2.1 vwCl [(h0, .inr (1, [.ref q1, .ref q2, .ref q3, .int 0, .int 0])), (q1, .inl (E.2.2.1, 16, .inl (fun _ => 0))), (q2, .inl (E.2.2.1, 16, .inl (fun _ => 0))), (q3, .inl (E.2.2.1, 16, .inl (fun _ => 0)))] H := hP
  have hD : va_D A [(h0, .inr (1, [.ref q1, .ref q2, .ref q3, .int 0, .int 0])), (q1, .inl (E.2.2.1, 16, .inl (fun _ => 0))), (q2, .inl (E.2.2.1, 16, .inl (fun _ => 0))), (q3, .inl (E.2.2.1, 16, .inl (fun _ => 0)))] := hD
  exact W.vret hx hb hr (fun t ht hW => ⟨⟨(q1, q2, q3), rfl, trivial, by rw [ht]; exact hP, hD⟩, hS.F ht⟩) hS.2.2 dX1_init_28
def kRX3 : Room := { frames := 1, cells := 2, slots := 230, locals := 20 }
set_option maxHeartbeats 4000000 in
set_option maxRecDepth 100000 in
/-- Text(): letters, numbers -/
theorem c_X3_init (l : Launch) (E : ev_E) (h0 sz : Nat) : Met l yX3_init (ev_ts jX3_init) kRX3 (va_Pc [.ref h0] (kP E sz [(h0, .inr (3, [.null, .null, .int 0, .int 0]))])) (va_Qv (fun _ : Nat × Nat => True) (fun u t => kB E (va_A [(h0, .inr (3, [.null, .null, .int 0, .int 0]))] sz) ([(h0, .inr (3, [.ref u.1, .ref u.2, .int 0, .int 0])), (u.1, .inl (E.2.2.2.1, 200, .inl (fun _ => 0))), (u.2, .inl (E.2.2.1, 30, .inl (fun _ => 0)))]) t) (va_A [(h0, .inr (3, [.null, .null, .int 0, .int 0]))] sz)) 2 230 (va_A [(h0, .inr (3, [.null, .null, .int 0, .int 0]))] sz) := by
  refine Met.ofW (cc := cX3_init) (maxL := 1) (ret := none) (by decide) rfl ?_
  intro p e s m args below meth c s₁ B hml hv
  obtain ⟨rfl, hsz, hP, hK, hN, hO, hD0⟩ := hv
  have hx := B.exec
  have hb := B.bytes
  have hr := B.returns
  have hts := atoms_spec (ws := ev_ts jX3_init) B.pre
  have hown : s.vm.findClass RX3 = some m.cls := findClass_of_methodNamed B.named
  have hlocks := B.notSynchronized
  have hin : meth.name = "<init>" := (name_of_methodNamed B.named B.method).1
  subst hsz
  have hD := hD0.self (sz := s.heap.size)
  generalize hAe : va_A [(h0, .inr (3, [.null, .null, .int 0, .int 0]))] s.heap.size = A at hD ⊢
  have hA : ∀ q : Nat, s.heap.size ≤ q → A q := fun q h => by rw [← hAe]; exact Or.inr h
  have hS : va_S A s.heap s.heap [] := va_S.rf
  have hl := lv_entry ([.ref h0]) (n := 1) (Nat.le_of_ble_eq_true rfl)
  rw [lg_entry_eq]
  generalize (lg_sl ([.ref h0]) ++ List.replicate (1 - (lg_sl ([.ref h0])).length) Slot.unset).toArray = ls at hl ⊢
  have hl : lv_has ls 1 [(0, .ref h0)] := hl
  refine lv_aload_n hx hb dX3_init_0 rfl (lv_at hl 0 rfl) ?_
  refine W.objInit hx hb hown (kw _ hts 80 (by decide +kernel) rfl) (kw _ hts 73 (by decide +kernel) rfl) (kw _ hts 74 (by decide +kernel) rfl) rfl (by rw [hml]; exact hl.1) rfl dX3_init_1 (Nat.le_of_ble_eq_true rfl) (Nat.le_of_ble_eq_true rfl) ?_
  refine W.eq (g2 := F0 m 4 ls []) rfl ?_
  refine lv_aload_n hx hb dX3_init_4 rfl (lv_at hl 0 rfl) ?_
  refine lv_sipush (v := 200) hx hb dX3_init_5 (by decide) ?_
  refine va_newa (atype := .char) (N' := 200) (a0 := (200, .inl (fun _ => 0))) hx hb (kw _ hts 97 (by decide +kernel) rfl) rfl hK hP hD hS hA (fun cA => rfl) (by decide) (by decide) (by decide) (Nat.le_of_ble_eq_true rfl) (Nat.le_of_ble_eq_true rfl) dX3_init_8 (fun q1 cA H hKa hP hD hS => ?_)
  obtain rfl := kt_char hKa
  clear hKa
  have hP : va_P E.2.1 vwCl [(h0, .inr (3, [.null, .null, .int 0, .int 0])), (q1, .inl (E.2.2.2.1, 200, .inl (fun _ => 0)))] H := hP
  have hD : va_D A [(h0, .inr (3, [.null, .null, .int 0, .int 0])), (q1, .inl (E.2.2.2.1, 200, .inl (fun _ => 0)))] := hD
  refine va_putF (D := E.2.1) (ci := 3) (v := .ref q1) (ty := (.array .char)) (C := RX3) (T := TX3) (N := 4) hx hb hts (fun w h => ev_aw_ts (cl_3.2.1 w h)) tyX3 tyX3_ok nmX3 hown hK hP hD hS 0 rfl rfl 0 (by decide) (kw _ hts 81 (by decide +kernel) rfl) (fun _ h9 => h9) rfl hin rfl (by decide +kernel) rfl rfl (Nat.le_of_ble_eq_true rfl) dX3_init_10 (fun H locs hP hD hS => ?_)
  have hP : va_P E.2.1 vwCl [(h0, .inr (3, [.ref q1, .null, .int 0, .int 0])), (q1, .inl (E.2.2.2.1, 200, .inl (fun _ => 0)))] H := hP
  have hD : va_D A [(h0, .inr (3, [.ref q1, .null, .int 0, .int 0])), (q1, .inl (E.2.2.2.1, 200, .inl (fun _ => 0)))] := hD
  refine lv_aload_n hx hb dX3_init_13 rfl (lv_at hl 0 rfl) ?_
  refine lv_bipush (v := 30) hx hb dX3_init_14 (by decide) ?_
  refine va_newa (atype := .int) (N' := 30) (a0 := (30, .inl (fun _ => 0))) hx hb (kw _ hts 98 (by decide +kernel) rfl) rfl hK hP hD hS hA (fun cA => rfl) (by decide) (by decide) (by decide) (Nat.le_of_ble_eq_true rfl) (Nat.le_of_ble_eq_true rfl) dX3_init_16 (fun q2 cA H hKa hP hD hS => ?_)
  obtain rfl := kt_int hKa
  clear hKa
  have hP : va_P E.2.1 vwCl [(h0, .inr (3, [.ref q1, .null, .int 0, .int 0])), (q1, .inl (E.2.2.2.1, 200, .inl (fun _ => 0))), (q2, .inl (E.2.2.1, 30, .inl (fun _ => 0)))] H := hP
  have hD : va_D A [(h0, .inr (3, [.ref q1, .null, .int 0, .int 0])), (q1, .inl (E.2.2.2.1, 200, .inl (fun _ => 0))), (q2, .inl (E.2.2.1, 30, .inl (fun _ => 0)))] := hD
  refine va_putF (D := E.2.1) (ci := 3) (v := .ref q2) (ty := (.array .int)) (C := RX3) (T := TX3) (N := 4) hx hb hts (fun w h => ev_aw_ts (cl_3.2.1 w h)) tyX3 tyX3_ok nmX3 hown hK hP hD hS 0 rfl rfl 1 (by decide) (kw _ hts 82 (by decide +kernel) rfl) (fun _ h9 => h9) rfl hin rfl (by decide +kernel) rfl rfl (Nat.le_of_ble_eq_true rfl) dX3_init_18 (fun H locs hP hD hS => ?_)
  have hP : va_P E.2.1 vwCl [(h0, .inr (3, [.ref q1, .ref q2, .int 0, .int 0])), (q1, .inl (E.2.2.2.1, 200, .inl (fun _ => 0))), (q2, .inl (E.2.2.1, 30, .inl (fun _ => 0)))] H := hP
  have hD : va_D A [(h0, .inr (3, [.ref q1, .ref q2, .int 0, .int 0])), (q1, .inl (E.2.2.2.1, 200, .inl (fun _ => 0))), (q2, .inl (E.2.2.1, 30, .inl (fun _ => 0)))] := hD
  exact W.vret hx hb hr (fun t ht hW => ⟨⟨(q1, q2), rfl, trivial, by rw [ht]; exact hP, hD⟩, hS.F ht⟩) hS.2.2 dX3_init_21
def kRX2 : Room := { frames := 2, cells := 4, slots := 28, locals := 40 }
set_option maxHeartbeats 4000000 in
set_option maxRecDepth 100000 in
/-- Device(): OUT and IN -/
theorem c_X2_init (l : Launch) (E : ev_E) (h0 sz : Nat) : Met l yX2_init (ev_ts jX2_init) kRX2 (va_Pc [.ref h0] (kP E sz [(h0, .inr (2, [.null, .null, .int 0, .int 0, .int 0, .int 0, .int 0, .int 0, .int 0, .int 0, .int 0, .int 0, .int 0, .int 0, .int 0, .int 0, .int 0, .int 0]))])) (va_Qv (fun _ : Nat × Nat × Nat × Nat => True) (fun u t => kB E (va_A [(h0, .inr (2, [.null, .null, .int 0, .int 0, .int 0, .int 0, .int 0, .int 0, .int 0, .int 0, .int 0, .int 0, .int 0, .int 0, .int 0, .int 0, .int 0, .int 0]))] sz) ([(h0, .inr (2, [.ref u.1, .ref u.2.2.1, .int 0, .int 0, .int 0, .int 0, .int 0, .int 0, .int 0, .int 0, .int 0, .int 0, .int 0, .int 0, .int 0, .int 0, .int 0, .int 0])), (u.1, .inr (0, [.ref u.2.1, .int 0])), (u.2.1, .inl (E.2.2.1, 12, .inl (fun _ => 0))), (u.2.2.1, .inr (0, [.ref u.2.2.2, .int 0])), (u.2.2.2, .inl (E.2.2.1, 12, .inl (fun _ => 0)))]) t) (va_A [(h0, .inr (2, [.null, .null, .int 0, .int 0, .int 0, .int 0, .int 0, .int 0, .int 0, .int 0, .int 0, .int 0, .int 0, .int 0, .int 0, .int 0, .int 0, .int 0]))] sz)) 4 28 (va_A [(h0, .inr (2, [.null, .null, .int 0, .int 0, .int 0, .int 0, .int 0, .int 0, .int 0, .int 0, .int 0, .int 0, .int 0, .int 0, .int 0, .int 0, .int 0, .int 0]))] sz) := by
  refine Met.ofW (cc := cX2_init) (maxL := 1) (ret := none) (by decide) rfl ?_
  intro p e s m args below meth c s₁ B hml hv
  obtain ⟨rfl, hsz, hP, hK, hN, hO, hD0⟩ := hv
  have hx := B.exec
  have hb := B.bytes
  have hr := B.returns
  have hts := atoms_spec (ws := ev_ts jX2_init) B.pre
  have hown : s.vm.findClass RX2 = some m.cls := findClass_of_methodNamed B.named
  have hlocks := B.notSynchronized
  have hin : meth.name = "<init>" := (name_of_methodNamed B.named B.method).1
  subst hsz
  have hD := hD0.self (sz := s.heap.size)
  generalize hAe : va_A [(h0, .inr (2, [.null, .null, .int 0, .int 0, .int 0, .int 0, .int 0, .int 0, .int 0, .int 0, .int 0, .int 0, .int 0, .int 0, .int 0, .int 0, .int 0, .int 0]))] s.heap.size = A at hD ⊢
  have hA : ∀ q : Nat, s.heap.size ≤ q → A q := fun q h => by rw [← hAe]; exact Or.inr h
  have hS : va_S A s.heap s.heap [] := va_S.rf
  have hl := lv_entry ([.ref h0]) (n := 1) (Nat.le_of_ble_eq_true rfl)
  rw [lg_entry_eq]
  generalize (lg_sl ([.ref h0]) ++ List.replicate (1 - (lg_sl ([.ref h0])).length) Slot.unset).toArray = ls at hl ⊢
  have hl : lv_has ls 1 [(0, .ref h0)] := hl
  refine lv_aload_n hx hb dX2_init_0 rfl (lv_at hl 0 rfl) ?_
  refine W.objInit hx hb hown (kw _ hts 105 (by decide +kernel) rfl) (kw _ hts 73 (by decide +kernel) rfl) (kw _ hts 74 (by decide +kernel) rfl) rfl (by rw [hml]; exact hl.1) rfl dX2_init_1 (Nat.le_of_ble_eq_true rfl) (Nat.le_of_ble_eq_true rfl) ?_
  refine W.eq (g2 := F0 m 4 ls []) rfl ?_
  refine lv_aload_n hx hb dX2_init_4 rfl (lv_at hl 0 rfl) ?_
  refine va_new (ci := 0) (fs := [.null, .int 0]) (C := RX0) (T := TX0) (N := 2) hx hb hts (fun w h => ev_aw_ts (cl_0.2.1 w h)) tyX0 tyX0_ok hown (kw _ hts 106 (by decide +kernel) rfl) (kw _ hts 107 (by decide +kernel) rfl) (kw _ hts 63 (by decide +kernel) rfl) hK hP hD hS hA rfl (by decide) (Nat.le_of_ble_eq_true rfl) (Nat.le_of_ble_eq_true rfl) dX2_init_5 (fun o1 H hP hD hS => ?_)
  have hP : va_P E.2.1 vwCl [(h0, .inr (2, [.null, .null, .int 0, .int 0, .int 0, .int 0, .int 0, .int 0, .int 0, .int 0, .int 0, .int 0, .int 0, .int 0, .int 0, .int 0, .int 0, .int 0])), (o1, .inr (0, [.null, .int 0]))] H := hP
  have hD : va_D A [(h0, .inr (2, [.null, .null, .int 0, .int 0, .int 0, .int 0, .int 0, .int 0, .int 0, .int 0, .int 0, .int 0, .int 0, .int 0, .int 0, .int 0, .int 0, .int 0])), (o1, .inr (0, [.null, .int 0]))] := hD
  refine lv_dup hx hb dX2_init_8 rfl ?_
  refine kt_ctor (I := jX2_init) (I' := jX0_init) (E := E) (wr := [(h0, .inr (2, [.null, .null, .int 0, .int 0, .int 0, .int 0, .int 0, .int 0, .int 0, .int 0, .int 0, .int 0, .int 0, .int 0, .int 0, .int 0, .int 0, .int 0]))]) (e0 := .inr (0, [.null, .int 0])) hx hb hml hown hts hl.1 dX2_init_9 (ev_nw_of 108 (by decide +kernel) rfl : Cond.methodLinkNest RX2 11 yX0_init "TalkBus" ∈ ev_nw) ⟨⟨by decide +kernel, by decide +kernel, by decide +kernel⟩, rfl⟩ rfl (ev_aw_of 63 (by decide +kernel) rfl) (ev_aw_of 109 (by decide +kernel) rfl) (ev_aw_of 110 (by decide +kernel) rfl) (c_X0_init l E o1 H.size) rfl rfl ⟨Nat.le_of_ble_eq_true rfl, Nat.le_of_ble_eq_true rfl⟩ (Nat.le_of_ble_eq_true rfl) ⟨Nat.le_of_ble_eq_true rfl, Nat.le_of_ble_eq_true rfl⟩ hK hN hO hP hD hS hA (fun u H locs _ hP hD hS => ?_)
  obtain ⟨b1, rfl⟩ : ∃ z, z = u := ⟨_, rfl⟩
  have hP : va_P E.2.1 vwCl [(h0, .inr (2, [.null, .null, .int 0, .int 0, .int 0, .int 0, .int 0, .int 0, .int 0, .int 0, .int 0, .int 0, .int 0, .int 0, .int 0, .int 0, .int 0, .int 0])), (o1, .inr (0, [.ref b1, .int 0])), (b1, .inl (E.2.2.1, 12, .inl (fun _ => 0)))] H := hP
  have hD : va_D A [(h0, .inr (2, [.null, .null, .int 0, .int 0, .int 0, .int 0, .int 0, .int 0, .int 0, .int 0, .int 0, .int 0, .int 0, .int 0, .int 0, .int 0, .int 0, .int 0])), (o1, .inr (0, [.ref b1, .int 0])), (b1, .inl (E.2.2.1, 12, .inl (fun _ => 0)))] := hD
  refine va_putF (D := E.2.1) (ci := 2) (v := .ref o1) (ty := (.object "TalkBus$ByteRow")) (C := RX2) (T := TX2) (N := 18) hx hb hts (fun w h => ev_aw_ts (cl_2.2.1 w h)) tyX2 tyX2_ok nmX2 hown hK hP hD hS 0 rfl rfl 0 (by decide) (kw _ hts 121 (by decide +kernel) rfl) (fun _ h9 => h9) rfl hin rfl (by decide +kernel) rfl rfl (Nat.le_of_ble_eq_true rfl) dX2_init_12 (fun H locs hP hD hS => ?_)
  have hP : va_P E.2.1 vwCl [(h0, .inr (2, [.ref o1, .null, .int 0, .int 0, .int 0, .int 0, .int 0, .int 0, .int 0, .int 0, .int 0, .int 0, .int 0, .int 0, .int 0, .int 0, .int 0, .int 0])), (o1, .inr (0, [.ref b1, .int 0])), (b1, .inl (E.2.2.1, 12, .inl (fun _ => 0)))] H := hP
  have hD : va_D A [(h0, .inr (2, [.ref o1, .null, .int 0, .int 0, .int 0, .int 0, .int 0, .int 0, .int 0, .int 0, .int 0, .int 0, .int 0, .int 0, .int 0, .int 0, .int 0, .int 0])), (o1, .inr (0, [.ref b1, .int 0])), (b1, .inl (E.2.2.1, 12, .inl (fun _ => 0)))] := hD
  refine lv_aload_n hx hb dX2_init_15 rfl (lv_at hl 0 rfl) ?_
  refine va_new (ci := 0) (fs := [.null, .int 0]) (C := RX0) (T := TX0) (N := 2) hx hb hts (fun w h => ev_aw_ts (cl_0.2.1 w h)) tyX0 tyX0_ok hown (kw _ hts 106 (by decide +kernel) rfl) (kw _ hts 107 (by decide +kernel) rfl) (kw _ hts 63 (by decide +kernel) rfl) hK hP hD hS hA rfl (by decide) (Nat.le_of_ble_eq_true rfl) (Nat.le_of_ble_eq_true rfl) dX2_init_16 (fun o2 H hP hD hS => ?_)
  have hP : va_P E.2.1 vwCl [(h0, .inr (2, [.ref o1, .null, .int 0, .int 0, .int 0, .int 0, .int 0, .int 0, .int 0, .int 0, .int 0, .int 0, .int 0, .int 0, .int 0, .int 0, .int 0, .int 0])), (o1, .inr (0, [.ref b1, .int 0])), (b1, .inl (E.2.2.1, 12, .inl (fun _ => 0))), (o2, .inr (0, [.null, .int 0]))] H := hP
  have hD : va_D A [(h0, .inr (2, [.ref o1, .null, .int 0, .int 0, .int 0, .int 0, .int 0, .int 0, .int 0, .int 0, .int 0, .int 0, .int 0, .int 0, .int 0, .int 0, .int 0, .int 0])), (o1, .inr (0, [.ref b1, .int 0])), (b1, .inl (E.2.2.1, 12, .inl (fun _ => 0))), (o2, .inr (0, [.null, .int 0]))] := hD
  refine lv_dup hx hb dX2_init_19 rfl ?_
  refine kt_ctor (I := jX2_init) (I' := jX0_init) (E := E) (wr := [(h0, .inr (2, [.ref o1, .null, .int 0, .int 0, .int 0, .int 0, .int 0, .int 0, .int 0, .int 0, .int 0, .int 0, .int 0, .int 0, .int 0, .int 0, .int 0, .int 0])), (o1, .inr (0, [.ref b1, .int 0])), (b1, .inl (E.2.2.1, 12, .inl (fun _ => 0)))]) (e0 := .inr (0, [.null, .int 0])) hx hb hml hown hts hl.1 dX2_init_20 (ev_nw_of 108 (by decide +kernel) rfl : Cond.methodLinkNest RX2 11 yX0_init "TalkBus" ∈ ev_nw) ⟨⟨by decide +kernel, by decide +kernel, by decide +kernel⟩, rfl⟩ rfl (ev_aw_of 63 (by decide +kernel) rfl) (ev_aw_of 109 (by decide +kernel) rfl) (ev_aw_of 110 (by decide +kernel) rfl) (c_X0_init l E o2 H.size) rfl rfl ⟨Nat.le_of_ble_eq_true rfl, Nat.le_of_ble_eq_true rfl⟩ (Nat.le_of_ble_eq_true rfl) ⟨Nat.le_of_ble_eq_true rfl, Nat.le_of_ble_eq_true rfl⟩ hK hN hO hP hD hS hA (fun u H locs _ hP hD hS => ?_)
  obtain ⟨b2, rfl⟩ : ∃ z, z = u := ⟨_, rfl⟩
  have hP : va_P E.2.1 vwCl [(h0, .inr (2, [.ref o1, .null, .int 0, .int 0, .int 0, .int 0, .int 0, .int 0, .int 0, .int 0, .int 0, .int 0, .int 0, .int 0, .int 0, .int 0, .int 0, .int 0])), (o1, .inr (0, [.ref b1, .int 0])), (b1, .inl (E.2.2.1, 12, .inl (fun _ => 0))), (o2, .inr (0, [.ref b2, .int 0])), (b2, .inl (E.2.2.1, 12, .inl (fun _ => 0)))] H := hP
  have hD : va_D A [(h0, .inr (2, [.ref o1, .null, .int 0, .int 0, .int 0, .int 0, .int 0, .int 0, .int 0, .int 0, .int 0, .int 0, .int 0, .int 0, .int 0, .int 0, .int 0, .int 0])), (o1, .inr (0, [.ref b1, .int 0])), (b1, .inl (E.2.2.1, 12, .inl (fun _ => 0))), (o2, .inr (0, [.ref b2, .int 0])), (b2, .inl (E.2.2.1, 12, .inl (fun _ => 0)))] := hD
  refine va_putF (D := E.2.1) (ci := 2) (v := .ref o2) (ty := (.object "TalkBus$ByteRow")) (C := RX2) (T := TX2) (N := 18) hx hb hts (fun w h => ev_aw_ts (cl_2.2.1 w h)) tyX2 tyX2_ok nmX2 hown hK hP hD hS 0 rfl rfl 1 (by decide) (kw _ hts 123 (by decide +kernel) rfl) (fun _ h9 => h9) rfl hin rfl (by decide +kernel) rfl rfl (Nat.le_of_ble_eq_true rfl) dX2_init_23 (fun H locs hP hD hS => ?_)
  have hP : va_P E.2.1 vwCl [(h0, .inr (2, [.ref o1, .ref o2, .int 0, .int 0, .int 0, .int 0, .int 0, .int 0, .int 0, .int 0, .int 0, .int 0, .int 0, .int 0, .int 0, .int 0, .int 0, .int 0])), (o1, .inr (0, [.ref b1, .int 0])), (b1, .inl (E.2.2.1, 12, .inl (fun _ => 0))), (o2, .inr (0, [.ref b2, .int 0])), (b2, .inl (E.2.2.1, 12, .inl (fun _ => 0)))] H := hP
  have hD : va_D A [(h0, .inr (2, [.ref o1, .ref o2, .int 0, .int 0, .int 0, .int 0, .int 0, .int 0, .int 0, .int 0, .int 0, .int 0, .int 0, .int 0, .int 0, .int 0, .int 0, .int 0])), (o1, .inr (0, [.ref b1, .int 0])), (b1, .inl (E.2.2.1, 12, .inl (fun _ => 0))), (o2, .inr (0, [.ref b2, .int 0])), (b2, .inl (E.2.2.1, 12, .inl (fun _ => 0)))] := hD
  exact W.vret hx hb hr (fun t ht hW => ⟨⟨(o1, b1, o2, b2), rfl, trivial, by rw [ht]; exact hP, hD⟩, hS.F ht⟩) hS.2.2 dX2_init_26
