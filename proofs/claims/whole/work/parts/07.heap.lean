/-! fields, rows, calls over flat stores -/
def ev_C (ci : Nat) (C : String) (T : u_T) (N : Nat) : Prop := vwCl[ci]? = some (C, T, N) ∧ (∀ w ∈ u_ws C T N, w ∈ ev_aw) ∧ (∃ ty0 : Nat → FieldType, ∀ k, k < N → parseFieldDescriptor (T k).2.2.1 = some (ty0 k)) ∧ ∀ a, a < N → ∀ b, b < N → a ≠ b → (T a).2.1 ≠ (T b).2.1
/-- the entry idx of own's pool names field k of class ci -/
def ev_F (own : String) (idx ci k : Nat) : Prop := ∃ (C : String) (T : u_T) (N : Nat), ev_C ci C T N ∧ k < N ∧ (Cond.fieldLink own idx (T k).1 (T k).2.1 (T k).2.2.1 ∈ ev_aw ∨ ∃ host, Cond.fieldLinkNest own idx (T k).1 (T k).2.1 (T k).2.2.1 host ∈ ev_nw)
def ev_Ft (ci k : Nat) (ty : FieldType) : Prop := ∃ (C : String) (T : u_T) (N : Nat), vwCl[ci]? = some (C, T, N) ∧ (T k).2.2.2 = false ∧ parseFieldDescriptor (T k).2.2.1 = some ty
/-- what a callee with n parameters needs of the tables -/
def ev_Yv (I' : ev_I) (n : Nat) : Prop := Cond.instanceMethod I'.1 ∈ ev_aw ∧ Cond.selects I'.1.cls I'.1 I'.1 ∈ ev_aw ∧ Cond.initialized I'.1.cls ∈ ev_aw ∧ Cond.code I'.1 I'.2.1 I'.2.2.1 I'.2.2.2.1 ∈ ev_aw ∧ (I'.1.cls ≠ "java/lang/invoke/MethodHandle" ∧ I'.1.cls ≠ "java/lang/invoke/VarHandle" ∧ (parseMethodDescriptor I'.1.desc).map (fun d => d.parameters.length) = some n) ∧ plainName I'.1.cls = true ∧ I'.2.2.2.2.cells = 0 ∧ I'.2.2.2.2.slots = 0
def ev_Ys (I' : ev_I) (n : Nat) : Prop := Cond.static I'.1 ∈ ev_aw ∧ Cond.initialized I'.1.cls ∈ ev_aw ∧ Cond.code I'.1 I'.2.1 I'.2.2.1 I'.2.2.2.1 ∈ ev_aw ∧ (I'.1.cls ≠ "java/lang/invoke/MethodHandle" ∧ I'.1.cls ≠ "java/lang/invoke/VarHandle" ∧ (parseMethodDescriptor I'.1.desc).map (fun d => d.parameters.length) = some n) ∧ plainName I'.1.cls = true ∧ I'.2.2.2.2.cells = 0 ∧ I'.2.2.2.2.slots = 0
def ev_Rm (I I' : ev_I) : Prop := I'.2.2.2.2.frames + 1 ≤ I.2.2.2.2.frames ∧ 8 + (I'.2.2.1 + 11) + I'.2.2.2.2.locals ≤ I.2.2.2.2.locals
theorem ev_fs_at {ad : Int → Nat} {σ : ev_M} {q : ev_Q} {k : Nat} (h : k < q.2.1) : (ev_fs ad σ q)[k]? = some (ev_fv ad σ q k) := by
  unfold ev_fs
  rw [List.getElem?_map, List.getElem?_range h]
  rfl
theorem ev_fs_len {ad : Int → Nat} {σ : ev_M} {q : ev_Q} : (ev_fs ad σ q).length = q.2.1 := by unfold ev_fs; rw [List.length_map, List.length_range]
theorem ev_fs_set {ad : Int → Nat} {σ : ev_M} {q : ev_Q} {k : Nat} (hk : k < q.2.1) (hd : ev_dl q.2.2.2 k = none) (v : Int) : (ev_fs ad σ q).set k (.int (Int32.ofInt v)) = ev_fs ad (ev_up σ (q.1 + (k : Int)) v) q := by
  apply List.ext_getElem?
  intro j
  by_cases hj : j = k
  · subst hj
    rw [List.getElem?_set_self (by rw [ev_fs_len]; exact hk), ev_fs_at hk]
    unfold ev_fv
    rw [hd, ev_up_eq]; rfl
  · rw [List.getElem?_set_ne (Ne.symm hj)]
    by_cases hl : j < q.2.1
    · rw [ev_fs_at hl, ev_fs_at hl]
      unfold ev_fv
      rw [ev_up_ne (by intro z; apply hj; omega)]
    · rw [List.getElem?_eq_none (by rw [ev_fs_len]; omega), List.getElem?_eq_none (by rw [ev_fs_len]; omega)]
theorem ev_av_at {σ : ev_M} {q : ev_Q} {j : Int} (h0 : 0 ≤ j) (h1 : j < (q.2.1 : Int)) : ev_av σ q j.toNat = Int32.ofInt (σ (q.1 + j)) := by
  unfold ev_av
  rw [if_pos (by omega), show ((j.toNat : Nat) : Int) = j by omega]
theorem ev_av_up {σ : ev_M} {q : ev_Q} {j : Int} (h0 : 0 ≤ j) (h1 : j < (q.2.1 : Int)) (v : Int) : upd (ev_av σ q) j.toNat (Int32.ofInt v) = ev_av (ev_up σ (q.1 + j) v) q := by
  funext i
  by_cases hi : i = j.toNat
  · subst hi
    rw [pk_us, ev_av_at h0 h1, ev_up_eq]
  · rw [pk_un hi]
    unfold ev_av
    by_cases hl : i < q.2.1
    · rw [if_pos hl, if_pos hl, ev_up_ne (by intro z; apply hi; omega)]
    · rw [if_neg hl, if_neg hl]
section EVH
variable {I : ev_I} {lay : ev_Y} {pc : Nat} {L : List (Option ev_V)} {S : List ev_V} {σ : ev_M} {Q : Int → ev_M → Prop} {a b o : Int} {sz ci k idx : Nat}
theorem ev_hts {I : ev_I} {args : Array Value} {s : State} {w : Cond} (h : ∀ w ∈ ev_ts I, w.before args s = true) (hw : w ∈ ev_aw) : w.before args s = true := h w (ev_aw_ts hw)
theorem Ev.getv (hd : decode I.2.1 pc = .ok (.getfield idx, 3)) (hf : ev_F I.1.cls idx ci k) (hm : (o, sz, 0, ci) ∈ lay) (hk : k < sz) {v : ev_V} (hv : ∀ ad, ev_fv ad σ (o, sz, 0, ci) k = ev_vl ad v) (hok : (∀ n, ev_in (σ n)) → ev_ok v) (kk : Ev I lay (pc + 3) L (v :: S) σ Q) : Ev I lay pc L (rv o :: S) σ Q := by
  intro p l e s m args below meth c E ls H locs X hL hS hW hV
  obtain ⟨C, T, N, ⟨c1, c2, -, -⟩, hkN, hlk⟩ := hf
  obtain ⟨w1, w2, w3, w4, w5, w6, w7⟩ := id hW
  obtain ⟨x1, x2, x3, x4, x5, x6, x7⟩ := id X
  obtain ⟨q0, hq0⟩ := ev_place hm (by simp)
  have he := ev_at (E := E) (σ := σ) hq0
  have hfs : (ev_fs E.1 σ (o, sz, 0, ci))[k]? = some (ev_vl E.1 v) := by rw [ev_fs_at (q := (o, sz, 0, ci)) hk, hv E.1]
  have kkk := kk p l e s m args below meth c E ls H locs X hL (ev_okc (hok w6) (ev_okt hS)) hW hV
  rcases hlk with hlk | ⟨host, hlk⟩
  · exact va_get (Ts := ev_ts I) (T := T) x1 x2 x7 (fun w h => ev_aw_ts (c2 w h)) x6 w3 w1 q0 he c1 k hkN (ev_hts x7 hlk) (fun _ h => h) hfs hd kkk
  · exact va_getN (Ts := ev_ts I) (T := T) x1 x2 x7 (fun w h => ev_aw_ts (c2 w h)) x6 w3 w1 q0 he c1 k hkN (va_Nw.use rfl (w4 _ hlk)) (fun _ h => h) hfs hd kkk
/-- getfield of a number at the place n -/
theorem Ev.geti (n : Int) (hd : decode I.2.1 pc = .ok (.getfield idx, 3)) (hf : ev_F I.1.cls idx ci k) (hm : (o, sz, 0, ci) ∈ lay) (hk : k < sz) (hdl : ev_dl ci k = none) (hn : o + (k : Int) = n) (kk : Ev I lay (pc + 3) L (iv (σ n) :: S) σ Q) : Ev I lay pc L (rv o :: S) σ Q :=
  Ev.getv hd hf hm hk (fun ad => by unfold ev_fv; show Option.elim (ev_dl ci k) _ _ = _; rw [hdl]; show Value.int (Int32.ofInt (σ (o + (k : Int)))) = _; rw [hn]; rfl) (fun h => ev_oki (h n)) kk
/-- getfield of a reference -/
theorem Ev.getr (o' : Int) {d : Int} (hd : decode I.2.1 pc = .ok (.getfield idx, 3)) (hf : ev_F I.1.cls idx ci k) (hm : (o, sz, 0, ci) ∈ lay) (hk : k < sz) (hdl : ev_dl ci k = some d) (hn : o + d = o') (kk : Ev I lay (pc + 3) L (rv o' :: S) σ Q) : Ev I lay pc L (rv o :: S) σ Q :=
  Ev.getv hd hf hm hk (fun ad => by unfold ev_fv; show Option.elim (ev_dl ci k) _ _ = _; rw [hdl]; show Value.ref (ad (o + d)) = _; rw [hn]; rfl) (fun _ => ev_okr o') kk
theorem Ev.putv (hd : decode I.2.1 pc = .ok (.putfield idx, 3)) (hf : ev_F I.1.cls idx ci k) {ty : FieldType} (ht : ev_Ft ci k ty) (hm : (o, sz, 0, ci) ∈ lay) (hk : k < sz) (hdl : ev_dl ci k = none) (hn : narrow ty (.int (Int32.ofInt a)) = .int (Int32.ofInt a)) (hfit : fits ty (.int (Int32.ofInt a)) = true) (kk : Ev I lay (pc + 3) L S (ev_up σ (o + (k : Int)) a) Q) : Ev I lay pc L (iv a :: rv o :: S) σ Q := by
  intro p l e s m args below meth c E ls H locs X hL hS hW hV
  obtain ⟨C, T, N, ⟨c1, c2, ⟨ty0, c3⟩, c4⟩, hkN, hlk⟩ := hf
  obtain ⟨C', T', N', t1, t2, t3⟩ := ht
  rw [c1] at t1
  obtain ⟨rfl, rfl, rfl⟩ : C = C' ∧ T = T' ∧ N = N' := by cases t1; exact ⟨rfl, rfl, rfl⟩
  obtain ⟨w1, w2, w3, w4, w5, w6, w7⟩ := id hW
  obtain ⟨x1, x2, x3, x4, x5, x6, x7⟩ := id X
  obtain ⟨q0, hq0⟩ := ev_place hm (by simp)
  have he := ev_at (E := E) (σ := σ) hq0
  have ha := ev_okh hS
  have hcell : ∀ x, x = (Sum.inr (ci, (ev_fs E.1 σ (o, sz, 0, ci)).set k (.int (Int32.ofInt a))) : va_E) → x = ev_cell E (ev_up σ (o + (k : Int)) a) (o, sz, 0, ci) := by
    intro x hx
    rw [hx, ev_fs_set (q := (o, sz, 0, ci)) hk hdl a]
    rfl
  have key : ∀ (H1 : Heap) (locs1 : List Loc), va_P E.2.1 vwCl ((ev_ws lay E σ).set q0 (E.1 o, .inr (ci, (ev_fs E.1 σ (o, sz, 0, ci)).set k (.int (Int32.ofInt a))))) H1 → va_D (ev_A lay E) ((ev_ws lay E σ).set q0 (E.1 o, .inr (ci, (ev_fs E.1 σ (o, sz, 0, ci)).set k (.int (Int32.ofInt a))))) → va_S (ev_A lay E) s.heap H1 locs1 → W p l e I.2.2.2.2 s m args below meth c H1 locs1 0 0 (MQ below (ev_post I lay E Q) args s 0 0 (ev_A lay E)) (F0 m (pc + 3) ls (S.map (ev_vl E.1))) := by
    intro H1 locs1 hP1 hD1 hS1
    have hset : (ev_ws lay E σ).set q0 (E.1 o, .inr (ci, (ev_fs E.1 σ (o, sz, 0, ci)).set k (.int (Int32.ofInt a)))) = ev_ws lay E (ev_up σ (o + (k : Int)) a) := ev_ws_set (q := (o, sz, 0, ci)) w7 hq0 (by show o ≤ o + (k : Int); omega) (by show o + (k : Int) < o + (sz : Int); omega) (hcell _ rfl)
    rw [hset] at hP1 hD1
    exact kk p l e s m args below meth c E ls H1 locs1 X hL (ev_okt (ev_okt hS)) ⟨hP1, hD1, w3, w4, ev_St_up (q := (o, sz, 0, ci)) w7 hm (by simp) (by show o ≤ o + (k : Int); omega) (by show o + (k : Int) < o + (sz : Int); omega) w5, ev_in_up w6 ha, w7⟩ hS1
  have hl : k < (ev_fs E.1 σ (o, sz, 0, ci)).length := by rw [ev_fs_len]; exact hk
  rcases hlk with hlk | ⟨host, hlk⟩
  · exact va_put (Ts := ev_ts I) (T := T) x1 x2 x7 (fun w h => ev_aw_ts (c2 w h)) ty0 c3 c4 x6 w3 w1 w2 hV q0 he c1 k hkN (ev_hts x7 hlk) (fun _ h => h) t2 t3 hn hfit hl hd key
  · exact va_putN (Ts := ev_ts I) (T := T) x1 x2 x7 (fun w h => ev_aw_ts (c2 w h)) ty0 c3 c4 x6 w3 w1 w2 hV q0 he c1 k hkN (va_Nw.use rfl (w4 _ hlk)) (fun _ h => h) t2 t3 hn hfit hl hd key
theorem Ev.puti (n : Int) (hd : decode I.2.1 pc = .ok (.putfield idx, 3)) (hf : ev_F I.1.cls idx ci k) (ht : ev_Ft ci k .int) (hm : (o, sz, 0, ci) ∈ lay) (hk : k < sz) (hdl : ev_dl ci k = none) (hn : o + (k : Int) = n) (kk : Ev I lay (pc + 3) L S (ev_up σ n a) Q) : Ev I lay pc L (iv a :: rv o :: S) σ Q :=
  Ev.putv hd hf ht hm hk hdl rfl rfl (by rw [hn]; exact kk)
theorem Ev.putz (n : Int) (hd : decode I.2.1 pc = .ok (.putfield idx, 3)) (hf : ev_F I.1.cls idx ci k) (ht : ev_Ft ci k .boolean) (hm : (o, sz, 0, ci) ∈ lay) (hk : k < sz) (hdl : ev_dl ci k = none) (hn : o + (k : Int) = n) (hb : a = 0 ∨ a = 1) (kk : Ev I lay (pc + 3) L S (ev_up σ n a) Q) : Ev I lay pc L (iv a :: rv o :: S) σ Q :=
  Ev.putv hd hf ht hm hk hdl (by rcases hb with rfl | rfl <;> rfl) (by rcases hb with rfl | rfl <;> rfl) (by rw [hn]; exact kk)
theorem Ev.iald {kd : Nat} (hd : decode I.2.1 pc = .ok (.iaload, 1)) (hm : (o, sz, kd, ci) ∈ lay) (hkd : kd = 1 ∨ kd = 4) (h0 : 0 ≤ a) (h1 : a < (sz : Int)) (kk : Ev I lay (pc + 1) L (iv (σ (o + a)) :: S) σ Q) : Ev I lay pc L (iv a :: rv o :: S) σ Q := by
  intro p l e s m args below meth c E ls H locs X hL hS hW hV
  obtain ⟨w1, w2, w3, w4, w5, w6, w7⟩ := id hW
  obtain ⟨x1, x2, x3, x4, x5, x6, x7⟩ := id X
  have ha := ev_okh hS
  have kkk := kk p l e s m args below meth c E ls H locs X hL (ev_okc (ev_oki (w6 _)) (ev_okt (ev_okt hS))) hW hV
  have hval : ev_av σ (o, sz, kd, ci) (Int32.ofInt a).toNatClampNeg = Int32.ofInt (σ (o + a)) := by rw [ev_clamp ha h0]; exact ev_av_at (q := (o, sz, kd, ci)) h0 h1
  rcases hkd with rfl | rfl
  · obtain ⟨q0, hq0⟩ := ev_place hm (by simp)
    have he := ev_at (E := E) (σ := σ) hq0
    refine va_iald x1 x2 w3 w1 q0 0 he rfl (ev_vpin ha h0 h1) hd ?_
    rw [hval]
    exact kkk
  · obtain ⟨-, hT⟩ := w5 _ hm rfl
    refine va_ti x1 x2 hT hV (ev_vpin ha h0 h1) (v := .int (Int32.ofInt (σ (o + a)))) (by rw [hval]) hd kkk
theorem Ev.cald (hd : decode I.2.1 pc = .ok (.caload, 1)) (hm : (o, sz, 2, ci) ∈ lay) (h0 : 0 ≤ a) (h1 : a < (sz : Int)) (kk : Ev I lay (pc + 1) L (iv (σ (o + a)) :: S) σ Q) : Ev I lay pc L (iv a :: rv o :: S) σ Q := by
  intro p l e s m args below meth c E ls H locs X hL hS hW hV
  obtain ⟨w1, w2, w3, w4, w5, w6, w7⟩ := id hW
  obtain ⟨x1, x2, x3, x4, x5, x6, x7⟩ := id X
  have ha := ev_okh hS
  have kkk := kk p l e s m args below meth c E ls H locs X hL (ev_okc (ev_oki (w6 _)) (ev_okt (ev_okt hS))) hW hV
  have hval : ev_av σ (o, sz, 2, ci) (Int32.ofInt a).toNatClampNeg = Int32.ofInt (σ (o + a)) := by rw [ev_clamp ha h0]; exact ev_av_at (q := (o, sz, 2, ci)) h0 h1
  obtain ⟨q0, hq0⟩ := ev_place hm (by simp)
  have he := ev_at (E := E) (σ := σ) hq0
  refine va_cald x1 x2 w3 w1 q0 1 he rfl (ev_vpin ha h0 h1) hd ?_
  rw [hval]
  exact kkk
theorem Ev.aald (hd : decode I.2.1 pc = .ok (.aaload, 1)) (hm : (o, sz, 3, ci) ∈ lay) (h0 : 0 ≤ a) (h1 : a < (sz : Int)) (kk : Ev I lay (pc + 1) L (rv (1000 + 100 * a) :: S) σ Q) : Ev I lay pc L (iv a :: rv o :: S) σ Q := by
  intro p l e s m args below meth c E ls H locs X hL hS hW hV
  obtain ⟨w1, w2, w3, w4, w5, w6, w7⟩ := id hW
  obtain ⟨x1, x2, x3, x4, x5, x6, x7⟩ := id X
  have ha := ev_okh hS
  have kkk := kk p l e s m args below meth c E ls H locs X hL (ev_okc (ev_okr _) (ev_okt (ev_okt hS))) hW hV
  obtain ⟨q0, hq0⟩ := ev_place hm (by simp)
  have he := ev_at (E := E) (σ := σ) hq0
  refine va_aldq x1 x2 w3 w1 q0 2 he rfl (ev_vpin ha h0 h1) hd ?_
  have e1 : E.1 (1000 + 100 * (((Int32.ofInt a).toNatClampNeg : Nat) : Int)) = E.1 (1000 + 100 * a) := by rw [ev_clamp ha h0, show ((a.toNat : Nat) : Int) = a by omega]
  show W p l e I.2.2.2.2 s m args below meth c H locs 0 0 _ (F0 m (pc + 1) ls (Value.ref (E.1 (1000 + 100 * (((Int32.ofInt a).toNatClampNeg : Nat) : Int))) :: S.map (ev_vl E.1)))
  rw [e1]
  exact kkk
theorem Ev.iast (hd : decode I.2.1 pc = .ok (.iastore, 1)) (hm : (o, sz, 1, ci) ∈ lay) (h0 : 0 ≤ a) (h1 : a < (sz : Int)) (kk : Ev I lay (pc + 1) L S (ev_up σ (o + a) b) Q) : Ev I lay pc L (iv b :: iv a :: rv o :: S) σ Q := by
  intro p l e s m args below meth c E ls H locs X hL hS hW hV
  obtain ⟨w1, w2, w3, w4, w5, w6, w7⟩ := id hW
  obtain ⟨x1, x2, x3, x4, x5, x6, x7⟩ := id X
  have hb := ev_okh hS
  have ha := ev_okh (ev_okt hS)
  obtain ⟨q0, hq0⟩ := ev_place hm (by simp)
  have he := ev_at (E := E) (σ := σ) hq0
  refine va_iast x1 x2 w3 w1 w2 hV q0 0 he rfl (ev_vpin ha h0 h1) hd (fun H1 locs1 hP1 hD1 hS1 => ?_)
  rw [ev_clamp ha h0] at hP1 hD1
  have hset := ev_ws_set (E := E) (σ := σ) (q := (o, sz, 1, ci)) w7 hq0 (n := o + a) (v := b) (by show o ≤ o + a; omega) (by show o + a < o + (sz : Int); omega) (x := .inl (E.2.2.1, sz, .inl (upd (ev_av σ (o, sz, 1, ci)) a.toNat (Int32.ofInt b)))) (by rw [ev_av_up (q := (o, sz, 1, ci)) h0 h1 b]; rfl)
  rw [hset] at hP1 hD1
  exact kk p l e s m args below meth c E ls H1 locs1 X hL (ev_okt (ev_okt (ev_okt hS))) ⟨hP1, hD1, w3, w4, ev_St_up (q := (o, sz, 1, ci)) w7 hm (by simp) (by show o ≤ o + a; omega) (by show o + a < o + (sz : Int); omega) w5, ev_in_up w6 hb, w7⟩ hS1
theorem Ev.cast (hd : decode I.2.1 pc = .ok (.castore, 1)) (hm : (o, sz, 2, ci) ∈ lay) (h0 : 0 ≤ a) (h1 : a < (sz : Int)) (hc : vp_nar .char (Int32.ofInt b) = Int32.ofInt b) (kk : Ev I lay (pc + 1) L S (ev_up σ (o + a) b) Q) : Ev I lay pc L (iv b :: iv a :: rv o :: S) σ Q := by
  intro p l e s m args below meth c E ls H locs X hL hS hW hV
  obtain ⟨w1, w2, w3, w4, w5, w6, w7⟩ := id hW
  obtain ⟨x1, x2, x3, x4, x5, x6, x7⟩ := id X
  have hb := ev_okh hS
  have ha := ev_okh (ev_okt hS)
  obtain ⟨q0, hq0⟩ := ev_place hm (by simp)
  have he := ev_at (E := E) (σ := σ) hq0
  refine va_cast x1 x2 w3 w1 w2 hV q0 1 he rfl (ev_vpin ha h0 h1) hd (fun H1 locs1 hP1 hD1 hS1 => ?_)
  rw [ev_clamp ha h0, hc] at hP1 hD1
  have hset := ev_ws_set (E := E) (σ := σ) (q := (o, sz, 2, ci)) w7 hq0 (n := o + a) (v := b) (by show o ≤ o + a; omega) (by show o + a < o + (sz : Int); omega) (x := .inl (E.2.2.2.1, sz, .inl (upd (ev_av σ (o, sz, 2, ci)) a.toNat (Int32.ofInt b)))) (by rw [ev_av_up (q := (o, sz, 2, ci)) h0 h1 b]; rfl)
  rw [hset] at hP1 hD1
  exact kk p l e s m args below meth c E ls H1 locs1 X hL (ev_okt (ev_okt (ev_okt hS))) ⟨hP1, hD1, w3, w4, ev_St_up (q := (o, sz, 2, ci)) w7 hm (by simp) (by show o ≤ o + a; omega) (by show o + a < o + (sz : Int); omega) w5, ev_in_up w6 hb, w7⟩ hS1
theorem Ev.gets (hd : decode I.2.1 pc = .ok (.getstatic idx, 3)) (hm : (o, sz, 4, k) ∈ lay) (hl : Cond.fieldLink I.1.cls idx "TalkBus" (ev_sn k) "[I" ∈ ev_aw ∨ ∃ host, Cond.fieldLinkNest I.1.cls idx "TalkBus" (ev_sn k) "[I" host ∈ ev_nw) (kk : Ev I lay (pc + 3) L (rv o :: S) σ Q) : Ev I lay pc L S σ Q := by
  intro p l e s m args below meth c E ls H locs X hL hS hW hV
  obtain ⟨w1, w2, w3, w4, w5, w6, w7⟩ := id hW
  obtain ⟨x1, x2, x3, x4, x5, x6, x7⟩ := id X
  have kkk := kk p l e s m args below meth c E ls H locs X hL (ev_okc (ev_okr _) hS) hW hV
  obtain ⟨hZ, -⟩ := w5 _ hm rfl
  rcases hl with hl | ⟨host, hl⟩
  · exact va_gets x1 x2 hZ hV x6 (ev_hts x7 hl) (fun _ h => h) hd kkk
  · exact va_getsN x1 x2 hZ hV x6 (va_Nw.use rfl (w4 _ hl)) (fun _ h => h) hd kkk
end EVH
