/-! THE CLAIM OUT OF ONE WALK OF THE LAW'S BODY. Your part is whole_start (and what it stands on); all else here is the same for every law, but numbers. -/
def R_law : String := "TalkBusLaw"
def lw_P (b : Addr) (xs : List Int32) (args : Array Value) (s : State) : Prop := args = #[.ref b] ∧ s.IntsAt b xs ∧ xs.length ≤ 2048 ∧ (Jvm.Cond.and given_1 narrow_1).before args s = true
def lw_Q (_ : Array Value) (s : State) (o : Outcome) (t : State) : Prop := o = .returned (some (.int 1)) ∧ Framed s o t [] 600000 7302250
def lw_Z (below : List Frame) (a : Array Value) (s : State) : State → Prop := fun t => ∃ o, t.status = .running ∧ Ended t below o ∧ lw_Q a s o t
/-- the law's own end, with 1 on the stack, nothing written that was there before, its room as the claim has it -/
theorem lw_ret {p : Program} {l : Launch} {e : Env} {s : State} {m : MethodId} {below : List Frame} {meth : Method} {c : Code} {b : Nat} (hx : p.tables.exec = Jvm.exec) (hb : c.code = code) (hr : meth.sig.returnType = ret) (hlocks : meth.locks = false) {pc : Nat} {H : Heap} {ls : Array Slot} (hdg : decode code pc = .ok (.ireturn, 1)) : W p l e room_1 s m #[Value.ref b] below meth c H [] 600000 7302250 (lw_Z below #[Value.ref b] s) (F0 m pc ls [.int 1]) := by
  intro T hT X
  obtain ⟨fs, hret, hrun, hended, hW, hframe⟩ := X.leave (v := some (.int 1)) (hlocks := hlocks) (fun h => by rw [hr] at h; cases h)
  have hmeth' : T.vm.method? m = some meth := X.method'
  refine ⟨T.setFrames fs, ?_, .returned (some (.int 1)), hrun, hended, rfl, ⟨_, rfl⟩, hW, hframe⟩
  jvm_step X.here [X.here.top, hx, hb, hdg, hmeth', hr, ret, narrow_b1]
  (try refine ⟨rfl, ?_⟩); (try refine ⟨rfl, ?_⟩)
  first | (intro acts; rw [hret _ acts rfl rfl rfl]) | rw [hret _ _ rfl rfl rfl]
  exact Steps.refl _
/-- what holds at the law's entry: the machine, the code, the tables' words (any of lw_tbl by 'hts w (by decide +kernel)'), the script of L ints xs at the cell b, what the Statement gives of the start (any of its parts by flat_of_before) -/
def lw_At (p : Program) (s : State) (m : MethodId) (meth : Method) (c : Code) (b L : Nat) (xs : Nat → Int32) : Prop :=
  p.tables.exec = Jvm.exec ∧ c.code = code ∧ meth.sig.returnType = ret ∧ c.maxLocals = 4 ∧ s.vm.findClass R_law = some m.cls ∧ (∀ w ∈ lw_tbl, w.before #[Value.ref b] s = true) ∧ va_X b L xs s s.heap ∧ b < s.heap.size ∧ meth.locks = false ∧ (Jvm.Cond.and given_1 narrow_1).before #[Value.ref b] s = true
theorem lw_w {b : Nat} {s : State} (hts : ∀ w ∈ lw_tbl, w.before #[Value.ref b] s = true) {w : Cond} (i : Nat) (h : lw_tbl[i]? = some w) : w.before #[Value.ref b] s = true := hts w (List.mem_of_getElem? h)
theorem lw_u {C : String} {T : u_T} {N ci : Nat} (h : ev_C ci C T N) : ∀ w ∈ u_ws C T N, w ∈ lw_tbl := fun w hw => (List.mem_filter.mp (h.2.1 w hw)).1
set_option maxRecDepth 100000 in
theorem st_w0 : ∀ j : Fin 5, Cond.eq (Term.elem (Term.static "TalkBus" "LEAST" "[I") (.int (Int32.ofNat j))) (.int (ev_av zx (500, 5, 4, 0) j)) ∈ flatC (Jvm.Cond.and given_1 narrow_1) := by decide +kernel
theorem st_0 {b : Nat} {s : State} {A : Nat → Prop} (hgv : (Jvm.Cond.and given_1 narrow_1).before #[Value.ref b] s = true) (hts : ∀ w ∈ lw_tbl, w.before #[Value.ref b] s = true) (hA : ∀ a : Nat, a < s.heap.size → ¬ A a) : ∃ t : Nat, va_Z "TalkBus" "LEAST" "[I" (.ref t) A s s.heap ∧ va_T .int t 5 (fun j => .int (ev_av zx (500, 5, 4, 0) j)) A s s.heap := by
  have hs := flat_of_before _ hgv
  obtain ⟨t, ht, hT⟩ := va_Tof (tm := Term.static "TalkBus" "LEAST" "[I") (ty := .int) (N := 5) (f := fun j => .int (ev_av zx (500, 5, 4, 0) j)) (A := A) (by decide) (hs _ (by decide +kernel)) (va_eqt (z := Int32.ofNat 5) (hs _ (by decide +kernel))) (fun j hj => va_eqt (hs _ (st_w0 ⟨j, hj⟩))) hA
  exact ⟨t, va_Zref (lw_w hts 313 (by decide +kernel)) (lw_w hts 60 (by decide +kernel)) ht hA, hT⟩
set_option maxRecDepth 100000 in
theorem st_w1 : ∀ j : Fin 5, Cond.eq (Term.elem (Term.static "TalkBus" "GREATEST" "[I") (.int (Int32.ofNat j))) (.int (ev_av zx (510, 5, 4, 1) j)) ∈ flatC (Jvm.Cond.and given_1 narrow_1) := by decide +kernel
theorem st_1 {b : Nat} {s : State} {A : Nat → Prop} (hgv : (Jvm.Cond.and given_1 narrow_1).before #[Value.ref b] s = true) (hts : ∀ w ∈ lw_tbl, w.before #[Value.ref b] s = true) (hA : ∀ a : Nat, a < s.heap.size → ¬ A a) : ∃ t : Nat, va_Z "TalkBus" "GREATEST" "[I" (.ref t) A s s.heap ∧ va_T .int t 5 (fun j => .int (ev_av zx (510, 5, 4, 1) j)) A s s.heap := by
  have hs := flat_of_before _ hgv
  obtain ⟨t, ht, hT⟩ := va_Tof (tm := Term.static "TalkBus" "GREATEST" "[I") (ty := .int) (N := 5) (f := fun j => .int (ev_av zx (510, 5, 4, 1) j)) (A := A) (by decide) (hs _ (by decide +kernel)) (va_eqt (z := Int32.ofNat 5) (hs _ (by decide +kernel))) (fun j hj => va_eqt (hs _ (st_w1 ⟨j, hj⟩))) hA
  exact ⟨t, va_Zref (lw_w hts 315 (by decide +kernel)) (lw_w hts 60 (by decide +kernel)) ht hA, hT⟩
set_option maxRecDepth 100000 in
theorem st_w2 : ∀ j : Fin 30, Cond.eq (Term.elem (Term.static "TalkBus" "FIRST_DEVICES" "[I") (.int (Int32.ofNat j))) (.int (ev_av zx (520, 30, 4, 2) j)) ∈ flatC (Jvm.Cond.and given_1 narrow_1) := by decide +kernel
theorem st_2 {b : Nat} {s : State} {A : Nat → Prop} (hgv : (Jvm.Cond.and given_1 narrow_1).before #[Value.ref b] s = true) (hts : ∀ w ∈ lw_tbl, w.before #[Value.ref b] s = true) (hA : ∀ a : Nat, a < s.heap.size → ¬ A a) : ∃ t : Nat, va_Z "TalkBus" "FIRST_DEVICES" "[I" (.ref t) A s s.heap ∧ va_T .int t 30 (fun j => .int (ev_av zx (520, 30, 4, 2) j)) A s s.heap := by
  have hs := flat_of_before _ hgv
  obtain ⟨t, ht, hT⟩ := va_Tof (tm := Term.static "TalkBus" "FIRST_DEVICES" "[I") (ty := .int) (N := 30) (f := fun j => .int (ev_av zx (520, 30, 4, 2) j)) (A := A) (by decide) (hs _ (by decide +kernel)) (va_eqt (z := Int32.ofNat 30) (hs _ (by decide +kernel))) (fun j hj => va_eqt (hs _ (st_w2 ⟨j, hj⟩))) hA
  exact ⟨t, va_Zref (lw_w hts 216 (by decide +kernel)) (lw_w hts 60 (by decide +kernel)) ht hA, hT⟩
theorem st_all {b : Nat} {s : State} {A : Nat → Prop} (x : va_G × (ClassId × ClassId × ClassId)) (hgv : (Jvm.Cond.and given_1 narrow_1).before #[Value.ref b] s = true) (hts : ∀ w ∈ lw_tbl, w.before #[Value.ref b] s = true) (hA : ∀ a : Nat, a < s.heap.size → ¬ A a) : ∃ sa : Int → Nat, ev_StA A layX (sa, x) zx s := by
  obtain ⟨t0, h0⟩ := st_0 hgv hts hA
  obtain ⟨t1, h1⟩ := st_1 hgv hts hA
  obtain ⟨t2, h2⟩ := st_2 hgv hts hA
  refine ⟨fun o => if o = 500 then t0 else if o = 510 then t1 else t2, ?_⟩
  intro q hq h4
  rcases layX_st hq h4 with rfl | rfl | rfl
  · exact h0
  · exact h1
  · exact h2
theorem cls_of {b : Nat} {s : State} (hts : ∀ w ∈ lw_tbl, w.before #[Value.ref b] s = true) : ∃ x : va_G × (ClassId × ClassId × ClassId), ∀ sa : Int → Nat, va_K x.1 vwCl (ev_tys (sa, x)) s := by
  obtain ⟨c0, i0, k0⟩ := u_known (C := RX0) (T := TX0) (N := 2) (n := 2) hts (lw_u cl_0) (lw_w hts 107 (by decide +kernel))
  obtain ⟨c1, i1, k1⟩ := u_known (C := RX1) (T := TX1) (N := 5) (n := 5) hts (lw_u cl_1) (lw_w hts 193 (by decide +kernel))
  obtain ⟨c2, i2, k2⟩ := u_known (C := RX2) (T := TX2) (N := 18) (n := 18) hts (lw_u cl_2) (lw_w hts 101 (by decide +kernel))
  obtain ⟨c3, i3, k3⟩ := u_known (C := RX3) (T := TX3) (N := 4) (n := 4) hts (lw_u cl_3) (lw_w hts 76 (by decide +kernel))
  obtain ⟨c4, i4, k4⟩ := u_known (C := RX4) (T := TX4) (N := 10) (n := 10) hts (lw_u cl_4) (lw_w hts 68 (by decide +kernel))
  obtain ⟨c5, i5, k5⟩ := u_known (C := RX5) (T := TX5) (N := 20) (n := 20) hts (lw_u cl_5) (lw_w hts 548 (by decide +kernel))
  have a1 : (Cond.arrayClass .int).before #[Value.ref b] s = true := lw_w hts 98 (by decide +kernel)
  have a2 : (Cond.arrayClass .char).before #[Value.ref b] s = true := lw_w hts 97 (by decide +kernel)
  have a3 : (Cond.arrayOver (.object "TalkBus$Device")).before #[Value.ref b] s = true := lw_w hts 100 (by decide +kernel)
  obtain ⟨cI, kI, pI, f1, f2, f3⟩ := Cond.arrayClass_spec a1
  obtain ⟨cC, kC, pC, g1, g2, g3⟩ := Cond.arrayClass_spec a2
  obtain ⟨comp, cD, kD, h1, h2, h3, h4, h5⟩ := Cond.arrayOver_spec a3
  refine ⟨((fun k => if k = 0 then c0 else if k = 1 then c1 else if k = 2 then c2 else if k = 3 then c3 else if k = 4 then c4 else c5, fun k => if k = 0 then i0 else if k = 1 then i1 else if k = 2 then i2 else if k = 3 then i3 else if k = 4 then i4 else i5), (cI, cC, cD)), fun sa => ⟨?_, ?_⟩⟩
  · intro k q hq
    match k, hq with
    | 0, hq => cases hq; exact k0
    | 1, hq => cases hq; exact k1
    | 2, hq => cases hq; exact k2
    | 3, hq => cases hq; exact k3
    | 4, hq => cases hq; exact k4
    | 5, hq => cases hq; exact k5
    | k + 6, hq => simp [vwCl] at hq
  · intro k q hq
    match k, hq with
    | 0, hq => cases hq; exact ⟨fun n z => ⟨fun k h => (by cases h), kI, f2, pI, f3⟩, f1⟩
    | 1, hq => cases hq; exact ⟨fun n z => ⟨fun k h => (by cases h), kC, g2, pC, g3⟩, g1⟩
    | 2, hq => cases hq; exact ⟨fun n z => ⟨fun k h => (by cases h), kD, h3, comp, h4⟩, kD, comp, h3, h4, h1, h5⟩
    | k + 3, hq => simp [ev_tys] at hq
theorem nw_all {b : Nat} {s : State} (hts : ∀ w ∈ lw_tbl, w.before #[Value.ref b] s = true) : ∀ w ∈ ev_nw, va_Nw w s := by
  intro w hw
  have h1 := hts w (List.mem_filter.mp hw).1
  have h2 : ev_isN w = true := (List.mem_filter.mp hw).2
  cases w <;> first | exact h1 | (simp [ev_isN] at h2)
theorem ev_StA.toU {A B : Nat → Prop} {lay : ev_Y} {E : ev_E} {σ : ev_M} {s U : State} {H : Heap} {locs : List Loc} (h : ev_StA A lay E σ s) (hS : va_S A s.heap H locs) (hU : U.heap = H) (hW : s.vm.Alike U.vm) (h8 : ∀ a, B a → A a) : ev_StA B lay E σ U := by
  intro q hq h4
  obtain ⟨a, b⟩ := h q hq h4
  rw [hU]
  exact ⟨((a.kept (fun x h1 h2 => hS.2.1 x h1 h2)).moved hW).narrow h8, ((b.kept (fun x h1 h2 => hS.2.1 x h1 h2)).moved hW).narrow h8⟩
theorem ev_StA_val {A : Nat → Prop} {b : Int} {E : ev_E} {σ : ev_M} {U : State} (h : ev_StA A layX E zx U) (hX : XI b σ) : ev_StA A layX E σ U := by
  intro q hq h4
  have e : ev_av σ q = ev_av zx q := by
    have key : ∀ j : Nat, j < q.2.1 → σ (q.1 + (j : Int)) = zx (q.1 + (j : Int)) := by
      intro j hj
      have hr : 500 ≤ q.1 + (j : Int) ∧ q.1 + (j : Int) < 550 := by
        rcases layX_st hq h4 with rfl | rfl | rfl
        all_goals
          dsimp only at hj ⊢
          omega
      rw [hX.st hr]
      unfold zx
      rw [if_pos hr]
    funext j
    unfold ev_av
    by_cases hj : j < q.2.1
    · rw [if_pos hj, if_pos hj, key j hj]
    · rw [if_neg hj, if_neg hj]
  rw [e]
  exact h q hq h4
theorem va_P.left {D : va_G} {cl : List vw_C} {a b : va_W} {H : Heap} (h : va_P D cl (a ++ b) H) : va_P D cl a H := fun k q hq => h k q (by rw [List.getElem?_append_left (List.getElem?_eq_some_iff.mp hq).1]; exact hq)
theorem app_r {α : Type} {a b : List α} {k : Nat} {q : α} (hq : b[k]? = some q) : (a ++ b)[a.length + k]? = some q := by
  rw [List.getElem?_append_right (by omega), show a.length + k - a.length = k by omega]
  exact hq
theorem app_l {α : Type} {a b : List α} {k : Nat} {q : α} (hq : a[k]? = some q) : (a ++ b)[k]? = some q := by
  rw [List.getElem?_append_left (List.getElem?_eq_some_iff.mp hq).1]
  exact hq
theorem va_P.right {D : va_G} {cl : List vw_C} {a b : va_W} {H : Heap} (h : va_P D cl (a ++ b) H) : va_P D cl b H := fun k q hq => h (a.length + k) q (app_r hq)
theorem va_D.left {A : Nat → Prop} {a b : va_W} (h : va_D A (a ++ b)) : va_D A a := ⟨fun i j p q hi hj e => h.1 i j p q (app_l hi) (app_l hj) e, fun k q hq => h.2 k q (app_l hq)⟩
theorem va_D.right {A : Nat → Prop} {a b : va_W} (h : va_D A (a ++ b)) : va_D A b := ⟨fun i j p q hi hj e => by
  have := h.1 (a.length + i) (a.length + j) p q (app_r hi) (app_r hj) e
  omega, fun k q hq => h.2 (a.length + k) q (app_r hq)⟩
theorem ev_apart {A : Nat → Prop} {Ex Em : ev_E} {σ τ : ev_M} (h : va_D A (ev_ws layX Ex σ ++ ev_ws layM Em τ)) : ∀ a, ev_A layX Ex a → ¬ ev_A layM Em a := by
  intro a ⟨q, hq, e⟩ ⟨q', hq', e'⟩
  obtain ⟨k, hk⟩ := List.getElem?_of_mem hq
  obtain ⟨k', hk'⟩ := List.getElem?_of_mem hq'
  have h1 := ev_at (E := Ex) (σ := σ) hk
  have h2 := ev_at (E := Em) (σ := τ) hk'
  have := h.1 k ((ev_ws layX Ex σ).length + k') _ _ (app_l h1) (app_r h2) (by rw [← e, ← e'])
  have hl := (List.getElem?_eq_some_iff.mp h1).1
  omega
theorem lw_goodc {I' : ev_I} (hc : Cond.code I'.1 I'.2.1 I'.2.2.1 I'.2.2.2.1 ∈ ev_aw) : GoodIn lw_tbl (ev_ts I') := by
  have g : ∀ w ∈ ev_aw, w ∈ lw_tbl ∧ ((w.onTables && w.keeps) = true ∨ ∃ ty, w = .arrayClass ty) := fun w h => ⟨(List.mem_filter.mp h).1, good_of_word (List.mem_filter.mp h).2⟩
  intro w hw
  rcases List.mem_cons.mp hw with rfl | h
  · exact g _ hc
  · exact g _ h
theorem va_one {A : Nat → Prop} {wr : va_W} {a : Nat} {e0 : va_E} (hD : va_D A (wr ++ [(a, e0)])) : va_D (fun _ => True) [(a, e0)] := (va_D.right hD).weaken (fun _ _ _ _ => trivial)
theorem va_fr {A : Nat → Prop} {wr : va_W} {a : Nat} {e0 : va_E} {H0 H : Heap} {locs : List Loc} (hD : va_D A (wr ++ [(a, e0)])) (hS : va_S A H0 H locs) (hA : ∀ q, H0.size ≤ q → A q) : ∀ q, va_A [(a, e0)] H.size q → A q := by
  intro q h
  rcases h with ⟨k, e, h⟩ | h
  · exact (va_D.right hD).2 k (q, e) h
  · exact hA q (Nat.le_trans hS.1 h)
set_option maxHeartbeats 4000000 in
set_option maxRecDepth 100000 in
theorem whole_start {p : Program} {e : Env} {s : State} {m : MethodId} {below : List Frame} {meth : Method} {c : Code} (l : Launch) (hflags : l.flags = flags0) {b L : Nat} {xs : Nat → Int32} (hL : L ≤ 2048) (C0 : lw_At p s m meth c b L xs) : W p l e room_1 s m #[Value.ref b] below meth c s.heap [] 0 0 (lw_Z below #[Value.ref b] s) (entryFrame m ([Value.ref b] : List Value).toArray 4) := by
  obtain ⟨hx, hb, hr, hml, hown, hts, hX, hbl, hlocks, hgv⟩ := id C0
  have hown : s.vm.findClass RL = some m.cls := hown
  generalize hAe : (fun q : Nat => s.heap.size ≤ q) = A
  have hA : ∀ q : Nat, s.heap.size ≤ q → A q := fun q h => by rw [← hAe]; exact h
  have hA2 : ∀ q : Nat, A q → s.heap.size ≤ q := fun q h => by rw [← hAe] at h; exact h
  have hA3 : ∀ a : Nat, a < s.heap.size → ¬ A a := fun a h z => absurd (hA2 a z) (by omega)
  have hbA : ¬ A b := hA3 b hbl
  obtain ⟨x, hKx⟩ := cls_of hts
  obtain ⟨sa, hST⟩ := st_all (A := A) x hgv hts hA3
  have hN := nw_all hts
  have hO : va_AO "TalkBus$Device" s := va_AO.of (A := #[Value.ref b]) (lw_w hts 100 (by decide +kernel))
  generalize hEe : ((sa, x) : ev_E) = E at hST
  have hK : va_K E.2.1 vwCl (ev_tys E) s := by rw [← hEe]; exact hKx sa
  have hST : ev_StA A layX (sa, E.2) zx s := by rw [← hEe]; rw [← hEe] at hST; exact hST
  have hS : va_S A s.heap s.heap [] := va_S.rf
  have hP : va_P E.2.1 vwCl [] s.heap := fun k q h => by simp at h
  have hD : va_D A [] := ⟨fun i j p q h => by simp at h, fun k q h => by simp at h⟩
  have hl := lv_entry ([.ref b]) (n := 4) (Nat.le_of_ble_eq_true rfl)
  rw [lg_entry_eq]
  generalize (lg_sl ([.ref b]) ++ List.replicate (4 - (lg_sl ([.ref b])).length) Slot.unset).toArray = ls at hl ⊢
  have hl : lv_has ls 4 [(0, .ref b)] := hl
  refine va_new (ci := 4) (fs := [.null, .null, .null, .null, .int 0, .int 0, .int 0, .int 0, .int 0, .int 0]) (C := RX4) (T := TX4) (N := 10) hx hb hts (lw_u cl_4) tyX4 tyX4_ok hown (lw_w hts 67 (by decide +kernel)) (lw_w hts 68 (by decide +kernel)) (lw_w hts 60 (by decide +kernel)) hK hP hD hS hA rfl (by decide) (Nat.le_of_ble_eq_true rfl) (Nat.le_of_ble_eq_true rfl) dL_law_0 (fun h0 H hP hD hS => ?_)
  refine lv_dup hx hb dL_law_3 rfl ?_
  have hF := va_fr hD hS hA
  refine va_callv (va_runI (As := []) (rest := [.ref h0]) ⟨hx, hb, hml, hown, hts⟩ (c_X4_init l E sa h0 H.size) (cwI 0 hts (lw_goodc (I' := jX4_init) (ev_aw_of 71 (by decide +kernel) rfl)) rfl rfl rfl (lw_w hts 60 (by decide +kernel)) (lw_w hts 69 (by decide +kernel)) (lw_w hts 70 (by decide +kernel)) rfl ⟨by decide +kernel, by decide +kernel, by decide +kernel⟩ ⟨Nat.le_of_ble_eq_true rfl, Nat.le_of_ble_eq_true rfl⟩) ⟨kPs_blind, fun U hU hW => ⟨rfl, ⟨by rw [hU], by rw [hU]; exact va_P.right hP, va_K.moved hW.alike hK, ev_nw_moved hW hN, hO.moved hW.alike, va_one hD⟩, hST.toU hS hU hW.alike hF⟩⟩ rfl rfl hl.1 rfl (lv_room (Nat.le_of_ble_eq_true rfl)) dL_law_4 ⟨Nat.le_of_ble_eq_true rfl, Nat.le_of_ble_eq_true rfl⟩) hS (fun q _ h => hF q h) hF (fun u t H1 locs ht hvm hw hB hz1 hk1 hS => ?_)
  obtain ⟨hP1, hD1, hin⟩ := hB
  rw [ht] at hP1
  obtain ⟨hP, hD⟩ := va_joinA (wr := []) hP hD hk1 hF hP1 hD1
  obtain ⟨adx, σ0⟩ := u
  obtain ⟨e1, e2, e3, e4, e5⟩ := hw
  have hP : va_P E.2.1 vwCl (ev_ws layX (adx, E.2) σ0) H1 := hP
  have hD : va_D A (ev_ws layX (adx, E.2) σ0) := hD
  have hin : ∀ n, ev_in (σ0 n) := hin
  have e1 : σ0 = x_bw 520 6 zx := e1
  have e2 : adx 0 = h0 := e2
  clear hP1 hD1 hk1 hz1 hF
  refine lv_astore_n (lv' := [(1, .ref h0), (0, .ref b)]) hx hb dL_law_7 rfl hl (by decide) rfl (fun ls hl => ?_)
  refine va_new (ci := 5) (fs := [.int 0, .null, .int 0, .null, .null, .int 0, .int 0, .int 0, .int 0, .int 0, .null, .int 0, .null, .null, .null, .int 0, .null, .int 0, .int 0, .null]) (C := RX5) (T := TX5) (N := 20) hx hb hts (lw_u cl_5) tyX5 tyX5_ok hown (lw_w hts 547 (by decide +kernel)) (lw_w hts 548 (by decide +kernel)) (lw_w hts 65 (by decide +kernel)) hK hP hD hS hA rfl (by decide) (Nat.le_of_ble_eq_true rfl) (Nat.le_of_ble_eq_true rfl) dL_law_8 (fun h1 H hP hD hS => ?_)
  refine lv_dup hx hb dL_law_11 rfl ?_
  have hF := va_fr hD hS hA
  refine va_callv (va_runI (As := []) (rest := [.ref h1]) ⟨hx, hb, hml, hown, hts⟩ (c_X5_init l E h1 H.size) (cwI 0 hts (lw_goodc (I' := jX5_init) (ev_aw_of 551 (by decide +kernel) rfl)) rfl rfl rfl (lw_w hts 65 (by decide +kernel)) (lw_w hts 549 (by decide +kernel)) (lw_w hts 550 (by decide +kernel)) rfl ⟨by decide +kernel, by decide +kernel, by decide +kernel⟩ ⟨Nat.le_of_ble_eq_true rfl, Nat.le_of_ble_eq_true rfl⟩) ⟨kP_blind, fun U hU hW => ⟨rfl, by rw [hU], by rw [hU]; exact va_P.right hP, va_K.moved hW.alike hK, ev_nw_moved hW hN, hO.moved hW.alike, va_one hD⟩⟩ rfl rfl hl.1 rfl (lv_room (Nat.le_of_ble_eq_true rfl)) dL_law_12 ⟨Nat.le_of_ble_eq_true rfl, Nat.le_of_ble_eq_true rfl⟩) hS (fun q _ h => hF q h) hF (fun u t H2 locs ht hvm hw hB hz1 hk1 hS => ?_)
  obtain ⟨hP1, hD1, hin1⟩ := hB
  rw [ht] at hP1
  obtain ⟨hP, hD⟩ := va_joinA hP hD hk1 hF hP1 hD1
  obtain ⟨adm, τ0⟩ := u
  obtain ⟨f1, f2⟩ := hw
  have hP : va_P E.2.1 vwCl (ev_ws layX (adx, E.2) σ0 ++ ev_ws layM (adm, E.2) τ0) H2 := hP
  have hD : va_D A (ev_ws layX (adx, E.2) σ0 ++ ev_ws layM (adm, E.2) τ0) := hD
  have hin1 : ∀ n, ev_in (τ0 n) := hin1
  have f1 : τ0 = m_begins zm := f1
  have f2 : adm 0 = h1 := f2
  refine lv_astore_n (lv' := [(2, .ref h1), (1, .ref h0), (0, .ref b)]) hx hb dL_law_15 rfl hl (by decide) rfl (fun ls hl => ?_)
  refine lv_iconst (v := 0) hx hb dL_law_16 (by decide) ?_
  refine lv_istore_n (lv' := [(3, .int 0), (2, .ref h1), (1, .ref h0), (0, .ref b)]) hx hb dL_law_17 rfl hl (by decide) rfl (fun ls hl => ?_)
  have hl : lv_has ls 4 (lw_lv b (adx, E.2) (adm, E.2) 0) := by
    rw [← e2, ← f2] at hl
    exact hl
  have hLI : LI (4000 * ((0 : Nat) : Int)) σ0 τ0 := by
    rw [e1, f1]
    exact start_LI
  refine lw_loop L 0 ls σ0 τ0 H2 locs (by omega) ⟨hx, hb, hml, hown, hts, hX, hbl, hbA, hL, ev_apart hD⟩ hl ⟨Nat.le_of_ble_eq_true rfl, Nat.le_of_ble_eq_true rfl⟩ (by omega) hLI ⟨⟨va_P.left hP, ev_D_of (va_D.left hD), hK, hN, ev_StA_ad (ev_StA_val hST hLI.1) e3 e4 e5, hin, sep_X, ev_A_of (va_D.left hD)⟩, ⟨va_P.right hP, ev_D_of (va_D.right hD), hK, hN, fun q hq h4 => (layM_st hq h4).elim, hin1, sep_M, ev_A_of (va_D.right hD)⟩, hS⟩ (fun ls1 H3 locs3 hS3 => ?_)
  refine lv_iconst (v := 1) hx hb dL_law_614 (by decide) ?_
  refine va_forget (fun q hq => hA2 _ (hS3.2.2 q hq)) ?_
  refine W.widen (k := 600000) (n := 7302250) (Nat.le_of_ble_eq_true rfl) (Nat.le_of_ble_eq_true rfl) ?_
  exact lw_ret hx hb hr hlocks dL_law_615
set_option maxHeartbeats 4000000 in
theorem lw_walk (l : Launch) (hflags : l.flags = flags0) (b : Addr) (xs : List Int32) : MetFree l x (headSpec (Jvm.Cond.code x code maxLocals ret :: tables_1) room_1) (lw_P b xs) (fun _ _ _ _ _ => True) lw_Q := by
  refine MetFree.of_bodyS (code := code) (maxLocals := maxLocals) (ret := ret) (by decide) ?_ ?_
  · intro args s m h hn
    obtain ⟨meth, c, h1, h2, h3, h4, h5, h6, -, -⟩ := Cond.code_spec hn (atoms_spec (ws := Jvm.Cond.code x code maxLocals ret :: tables_1) h _ List.mem_cons_self)
    exact ⟨meth, c, h1, h2, h3, h4, h5, h6⟩
  · intro p e s m args below meth c s₁ B hml0 hP _
    obtain ⟨rfl, hx, hbd, hgv⟩ := hP
    obtain ⟨scr, harrAt, hlist, hof, hsmall⟩ := hx
    obtain ⟨hcb, hkn, -, -⟩ := State.arrayAt?_spec harrAt
    have hown : s.vm.findClass R_law = some m.cls := findClass_of_methodNamed B.named
    have hts0 : ∀ c ∈ (Jvm.Cond.code x code maxLocals ret :: tables_1), c.before #[Value.ref b] s = true := atoms_spec (ws := Jvm.Cond.code x code maxLocals ret :: tables_1) B.pre
    have hts : ∀ w ∈ lw_tbl, w.before #[Value.ref b] s = true := k2_hts_sels lw_privs (fun w hw => hts0 w (List.mem_cons_of_mem _ hw)) lw_privs_ok
    have hml : c.maxLocals = 4 := B.maxLocals_eq (hts0 _ List.mem_cons_self)
    have X₀ : Stand p l e room_1 s m #[Value.ref b] below meth c s₁ [] 0 0 := Stand.of_body B
    have hh0 : s₁.heap = s.heap := by rw [B.state]; rfl
    have hsz : scr.slots.size = xs.length := by rw [← Array.length_toList, hlist, List.length_map]
    have hval : ∀ j : Nat, j < xs.length → scr.slots[j]? = some (.int (xs.getD j 0)) := fun j hj => by
      rw [← Array.getElem?_toList, hlist]
      simp [hj]
    have hbl : b < s.heap.size := (Array.getElem?_eq_some_iff.mp hcb).1
    have hX : va_X b xs.length (fun j => xs.getD j 0) s s.heap := ⟨scr, hcb, hof, hkn, hsz, hval⟩
    have K : W p l e room_1 s m #[Value.ref b] below meth c s₁.heap [] 0 0 (lw_Z below #[Value.ref b] s) (entryFrame m ([Value.ref b] : List Value).toArray 4) := by
      rw [hh0]
      exact whole_start l hflags hbd ⟨B.exec, B.bytes, B.returns, hml, hown, hts, hX, hbl, B.notSynchronized, hgv⟩
    obtain ⟨t, a1, o, b1, b2, b3⟩ := K s₁ rfl X₀
    exact ⟨t, o, a1, b1, b2, b3⟩
theorem lw_pre_spec {args : Array Value} {s : State} (h : (Jvm.Cond.and given_1 narrow_1).before args s = true) (hr : rest_1_c.before args s = true) : ∃ (b : Addr) (xs : List Int32), lw_P b xs args s := by
  have hs := flat_of_before _ h
  have hq := flat_of_before _ hr
  have hc : (Cond.count 1).before args s = true := hs _ (by decide +kernel)
  have harr : (Cond.arrayOf (.arg 0) .int).before args s = true := hs _ (by decide +kernel)
  have hle : (Cond.le (.length (.arg 0)) (.int 2048)).before args s = true := hs _ (by decide +kernel)
  have hlen : (Cond.isInt (.length (.arg 0))).before args s = true := hq _ (by decide +kernel)
  have hall : (Cond.all (.arg 0) (.isInt (.elem (.arg 0) (.index 0)))).before args s = true := hq _ (by decide +kernel)
  obtain ⟨b, xs, hb, hx⟩ := State.ints_of_pre rfl harr hlen hall
  have hsm : xs.length < 2 ^ 31 := hx.choose_spec.2.2.2
  have hev : (Term.length (.arg 0)).eval args s none [] s = some (.int xs.length.toInt32) := hx.length_eval hb
  have hv := Cond.le_ints hev (show (Term.int 2048).eval args s none [] s = some (.int 2048) from rfl)
  have hd : xs.length.toInt32 ≤ 2048 := by
    simpa [Cond.before, Cond.holds, hv] using hle
  have hN : xs.length ≤ 2048 := (Int32.ofNat_le_ofNat hsm (by decide)).mp (show Int32.ofNat xs.length ≤ Int32.ofNat 2048 from hd)
  exact ⟨b, xs, Cond.one_arg hc (show args[0]? = some (.ref b) from hb), hx, hN, h⟩
theorem lw_comes (l : Launch) (hflags : l.flags = flags0) : Comes l x (Jvm.Cond.code x code maxLocals ret :: tables_1) room_1 (fun tb e args s => Calls_1 tb e args s ∧ rest_1 tb e args s ∧ Pre_1 tb e args s)
    (fun _ _ args s o t => lw_Q args s o t) := by
  intro p e ha hc hk s m args below hf hfit hheap happ hpre
  obtain ⟨b, xs, hP⟩ := lw_pre_spec hpre.2.2 hpre.2.1
  obtain ⟨k, o, h1, h2, h3, hQ⟩ := lw_walk l hflags b xs p e ha hc hk s m args below hf ((Spec.applies_iff_loose hf).mp happ).1 hP trivial
  exact ⟨k, o, h1, h2, h3, hQ⟩
theorem lw_frame {s t : State} {o : Outcome} {args : Array Value} (h : Framed s o t [] 600000 7302250) :
    Framed s o t (fieldLocs frame_1_writes args s ++ arrayLocs frame_1_arrays args s ++ staticLocs frame_1_statics s) 600000 7302250 := h
theorem lw_limb (L : Cond) (hL : ∀ (args : Array Value) (s t : State), L.after args s (.returned (some (.int 1))) t = true) :
    ArmFor flags0 classFile x code maxLocals ret World_1 tables_1 room_1 Calls_1 rest_1 Pre_1
      (fun tb e a s o t => postC L tb e a s o t ∧ Framed s o t (fieldLocs frame_1_writes a s ++ arrayLocs frame_1_arrays a s ++ staticLocs frame_1_statics s) 600000 7302250) := by
  intro l hflags _ _ p e ha hc hk s m args below hf hfit hheap happ hpre
  obtain ⟨k, o, h1, h2, h3, rfl, hF⟩ := lw_comes l hflags p e ha hc hk s m args below hf hfit hheap happ hpre
  exact ⟨k, _, h1, h2, h3, hL args s _, lw_frame hF⟩
theorem i_vc : Claimed_1_1 ∧ Claimed_1_2 := ⟨lw_limb limb_1_1 (fun args s t => by simp [limb_1_1, Cond.after, Cond.holds, Cond.value]), lw_limb limb_1_2 (fun args s t => Cond.after_iff.mpr (by
  first | (rw [show limb_1_2 = Cond.eq .result (.int 1) from rfl, Cond.eq_ints (x := 1) (y := 1) rfl rfl]; simp; done) | (simp [limb_1_2, Cond.value, Term.eval]; done)))⟩
