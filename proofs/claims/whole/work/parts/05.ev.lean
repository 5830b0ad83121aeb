/-! FLAT STORES: a world of cells at fixed numbers (offsets), its ints in one store 'Int → Int'; a judgement 'Ev' over it that hides the machine -/
abbrev ev_V : Type := Int ⊕ Int
abbrev ev_M : Type := Int → Int
abbrev iv (i : Int) : ev_V := Sum.inl i
abbrev rv (o : Int) : ev_V := Sum.inr o
def ev_in (i : Int) : Prop := -2147483648 ≤ i ∧ i < 2147483648
def ev_ok (v : ev_V) : Prop := ∀ i, v = Sum.inl i → ev_in i
/-- a cell of the layout: offset, size, kind (0 object, 1 int row, 2 char row, 3 row of devices, 4 static int row), class or number of the static -/
abbrev ev_Q : Type := Int × Nat × Nat × Nat
abbrev ev_Y : Type := List ev_Q
/-- addresses; class ids and slots; the row classes (int, char, device) -/
abbrev ev_E : Type := (Int → Nat) × va_G × (ClassId × ClassId × ClassId)
def ev_vl (ad : Int → Nat) : ev_V → Value
  | .inl i => .int (Int32.ofInt i)
  | .inr o => .ref (ad o)
/-- where a field that holds a reference points to, from its object's offset -/
def ev_dl (ci k : Nat) : Option Int :=
  if ci = 0 then (if k = 0 then some 10 else none)
  else if ci = 1 then (if k = 0 then some 70 else if k = 1 then some 90 else if k = 2 then some 110 else none)
  else if ci = 2 then (if k = 0 then some 20 else if k = 1 then some 50 else none)
  else if ci = 3 then (if k = 0 then some 180 else if k = 1 then some 40 else none)
  else if ci = 4 then (if k = 0 then some 20 else if k = 1 then some 50 else if k = 2 then some 30 else if k = 3 then some 40 else none)
  else (if k = 1 then some 100 else if k = 3 then some 300 else if k = 4 then some 420 else if k = 10 then some 570 else if k = 12 then some 580 else if k = 13 then some 600 else if k = 14 then some 620 else if k = 16 then some 640 else if k = 19 then some 680 else none)
def ev_sn (k : Nat) : String := if k = 0 then "LEAST" else if k = 1 then "GREATEST" else "FIRST_DEVICES"
def ev_fv (ad : Int → Nat) (σ : ev_M) (q : ev_Q) (k : Nat) : Value := (ev_dl q.2.2.2 k).elim (Value.int (Int32.ofInt (σ (q.1 + (k : Int))))) (fun d => Value.ref (ad (q.1 + d)))
def ev_fs (ad : Int → Nat) (σ : ev_M) (q : ev_Q) : List Value := (List.range q.2.1).map (ev_fv ad σ q)
def ev_av (σ : ev_M) (q : ev_Q) : Nat → Int32 := fun j => if j < q.2.1 then Int32.ofInt (σ (q.1 + (j : Int))) else 0
def ev_cell (E : ev_E) (σ : ev_M) (q : ev_Q) : va_E :=
  if q.2.2.1 = 0 then .inr (q.2.2.2, ev_fs E.1 σ q)
  else if q.2.2.1 = 1 then .inl (E.2.2.1, q.2.1, .inl (ev_av σ q))
  else if q.2.2.1 = 2 then .inl (E.2.2.2.1, q.2.1, .inl (ev_av σ q))
  else .inl (E.2.2.2.2, q.2.1, .inr (.inr (.inr (.inr (fun j => some (E.1 (1000 + 100 * (j : Int))))))))
def ev_cs (lay : ev_Y) : ev_Y := lay.filter (fun q => q.2.2.1 != 4)
def ev_ws (lay : ev_Y) (E : ev_E) (σ : ev_M) : va_W := (ev_cs lay).map (fun q => (E.1 q.1, ev_cell E σ q))
def ev_A (lay : ev_Y) (E : ev_E) : Nat → Prop := fun a => ∃ q ∈ ev_cs lay, a = E.1 q.1
def ev_tys (E : ev_E) : List (ClassId × FieldType) := [(E.2.2.1, .int), (E.2.2.2.1, .char), (E.2.2.2.2, .object "TalkBus$Device")]
def ev_isN : Cond → Bool
  | .fieldLinkNest .. => true
  | .methodLinkNest .. => true
  | _ => false
def ev_nw : List Cond := lw_tbl.filter ev_isN
def ev_aw : List Cond := lw_tbl.filter goodWord
def ev_sep (lay : ev_Y) : Prop := lay.Pairwise (fun q q' => q.1 + (q.2.1 : Int) ≤ q'.1)
def ev_St (lay : ev_Y) (E : ev_E) (σ : ev_M) (U : State) : Prop := ∀ q ∈ lay, q.2.2.1 = 4 → va_Z "TalkBus" (ev_sn q.2.2.2) "[I" (.ref (E.1 q.1)) (ev_A lay E) U U.heap ∧ va_T .int (E.1 q.1) q.2.1 (fun j => .int (ev_av σ q j)) (ev_A lay E) U U.heap
def ev_W (lay : ev_Y) (E : ev_E) (σ : ev_M) (U : State) (H : Heap) : Prop :=
  va_P E.2.1 vwCl (ev_ws lay E σ) H ∧ va_D (ev_A lay E) (ev_ws lay E σ) ∧ va_K E.2.1 vwCl (ev_tys E) U ∧ (∀ w ∈ ev_nw, va_Nw w U) ∧ ev_St lay E σ U ∧ (∀ n, ev_in (σ n)) ∧ ev_sep lay
def ev_up (σ : ev_M) (n v : Int) : ev_M := fun k => if k = n then v else σ k
/-- a method: name, code, locals, what it returns, its room -/
abbrev ev_I : Type := MethodName × ByteArray × Nat × Option FieldType × Room
def ev_ts (I : ev_I) : List Cond := .code I.1 I.2.1 I.2.2.1 I.2.2.2.1 :: ev_aw
def ev_post (I : ev_I) (lay : ev_Y) (E : ev_E) (Q : Int → ev_M → Prop) : Array Value → State → Outcome → State → Prop :=
  if I.2.2.2.1 = none then va_Qv (fun σ' : ev_M => Q 0 σ') (fun σ' t => ev_W lay E σ' t t.heap) (ev_A lay E)
  else va_Qi (fun (r : Int32) (σ' : ev_M) => ∃ i, ev_in i ∧ r = Int32.ofInt i ∧ Q i σ') (fun σ' t => ev_W lay E σ' t t.heap) (ev_A lay E)
def ev_Fx (I : ev_I) (p : Program) (s : State) (m : MethodId) (args : Array Value) (meth : Method) (c : Code) : Prop :=
  p.tables.exec = Jvm.exec ∧ c.code = I.2.1 ∧ c.maxLocals = I.2.2.1 ∧ meth.sig.returnType = I.2.2.2.1 ∧ meth.locks = false ∧ s.vm.findClass I.1.cls = some m.cls ∧ ∀ w ∈ ev_ts I, w.before args s = true
def ev_L (ad : Int → Nat) (ls : Array Slot) (nL : Nat) (L : List (Option ev_V)) : Prop :=
  ls.size = nL ∧ lv_wf ls ∧ L.length = nL ∧ (∀ (k : Nat) (v : ev_V), L[k]? = some (some v) → ls[k]? = some (.val (ev_vl ad v))) ∧ ∀ v, some v ∈ L → ev_ok v
/-- the machine, at pc, with locals L, stack S, store σ, comes to the method's end, answering r with store σ' such that Q r σ' -/
def Ev (I : ev_I) (lay : ev_Y) (pc : Nat) (L : List (Option ev_V)) (S : List ev_V) (σ : ev_M) (Q : Int → ev_M → Prop) : Prop :=
  ∀ (p : Program) (l : Launch) (e : Env) (s : State) (m : MethodId) (args : Array Value) (below : List Frame) (meth : Method) (c : Code) (E : ev_E) (ls : Array Slot) (H : Heap) (locs : List Loc),
    ev_Fx I p s m args meth c → ev_L E.1 ls I.2.2.1 L → (∀ v ∈ S, ev_ok v) → ev_W lay E σ s H → va_S (ev_A lay E) s.heap H locs →
    W p l e I.2.2.2.2 s m args below meth c H locs 0 0 (MQ below (ev_post I lay E Q) args s 0 0 (ev_A lay E)) (F0 m pc ls (S.map (ev_vl E.1)))
theorem ev_cat (ad : Int → Nat) (v : ev_V) : (ev_vl ad v).category = 1 := by cases v <;> rfl
theorem ev_aw_of {w : Cond} (i : Nat) (h : lw_tbl[i]? = some w) (g : goodWord w = true) : w ∈ ev_aw := List.mem_filter.mpr ⟨List.mem_of_getElem? h, g⟩
theorem ev_nw_of {w : Cond} (i : Nat) (h : lw_tbl[i]? = some w) (g : ev_isN w = true) : w ∈ ev_nw := List.mem_filter.mpr ⟨List.mem_of_getElem? h, g⟩
theorem ev_aw_ts {I : ev_I} {w : Cond} (h : w ∈ ev_aw) : w ∈ ev_ts I := List.mem_cons_of_mem _ h
theorem ev_toInt {i : Int} (h : ev_in i) : (Int32.ofInt i).toInt = i := Int32.toInt_ofInt_of_le (by have := h.1; omega) (by have := h.2; omega)
theorem ev_ofInt (x : Int32) : Int32.ofInt x.toInt = x := Int32.ofInt_toInt x
theorem ev_in_toInt (x : Int32) : ev_in x.toInt := ⟨by have := Int32.le_toInt x; omega, by have := Int32.toInt_lt x; omega⟩
theorem ev_lt {a b : Int} (ha : ev_in a) (hb : ev_in b) : Int32.ofInt a < Int32.ofInt b ↔ a < b := by rw [Int32.lt_iff_toInt_lt, ev_toInt ha, ev_toInt hb]
theorem ev_le {a b : Int} (ha : ev_in a) (hb : ev_in b) : Int32.ofInt a ≤ Int32.ofInt b ↔ a ≤ b := by rw [Int32.le_iff_toInt_le, ev_toInt ha, ev_toInt hb]
theorem ev_eq {a b : Int} (ha : ev_in a) (hb : ev_in b) : Int32.ofInt a = Int32.ofInt b ↔ a = b := by
  constructor
  · intro h
    have := congrArg Int32.toInt h
    rwa [ev_toInt ha, ev_toInt hb] at this
  · intro h; rw [h]
theorem ev_clamp {i : Int} (h : ev_in i) (h0 : 0 ≤ i) : (Int32.ofInt i).toNatClampNeg = i.toNat := by
  have := Int32.toNat_toInt (Int32.ofInt i)
  rw [ev_toInt h] at this
  exact this.symm
theorem ev_vpin {i : Int} {n : Nat} (h : ev_in i) (h0 : 0 ≤ i) (h1 : i < n) : vp_in (Int32.ofInt i) n := vp_in_iff.mpr (by rw [ev_toInt h]; exact ⟨h0, h1⟩)
theorem ev_pw {α : Type} {R : α → α → Prop} : ∀ {l : List α}, l.Pairwise R → ∀ (i j : Nat) (a b : α), l[i]? = some a → l[j]? = some b → i < j → R a b := by
  intro l hl i j a b hi hj hij
  obtain ⟨h1, e1⟩ := List.getElem?_eq_some_iff.mp hi
  obtain ⟨h2, e2⟩ := List.getElem?_eq_some_iff.mp hj
  have := List.pairwise_iff_getElem.mp hl i j h1 h2 hij
  rwa [e1, e2] at this
theorem ev_pwm {α : Type} {R : α → α → Prop} {l : List α} (hl : l.Pairwise R) {a b : α} (ha : a ∈ l) (hb : b ∈ l) : a = b ∨ R a b ∨ R b a := by
  obtain ⟨i, hi⟩ := List.getElem?_of_mem ha
  obtain ⟨j, hj⟩ := List.getElem?_of_mem hb
  rcases Nat.lt_trichotomy i j with h | h | h
  · exact Or.inr (Or.inl (ev_pw hl i j a b hi hj h))
  · subst h; rw [hi] at hj; exact Or.inl (Option.some.inj hj)
  · exact Or.inr (Or.inr (ev_pw hl j i b a hj hi h))
theorem ev_cs_mem {lay : ev_Y} {q : ev_Q} (h : q ∈ lay) (h4 : q.2.2.1 ≠ 4) : q ∈ ev_cs lay := List.mem_filter.mpr ⟨h, by simp [h4]⟩
theorem ev_place {lay : ev_Y} {q : ev_Q} (h : q ∈ lay) (h4 : q.2.2.1 ≠ 4) : ∃ k : Nat, (ev_cs lay)[k]? = some q := List.getElem?_of_mem (ev_cs_mem h h4)
theorem ev_at {lay : ev_Y} {E : ev_E} {σ : ev_M} {q : ev_Q} {k : Nat} (h : (ev_cs lay)[k]? = some q) : (ev_ws lay E σ)[k]? = some (E.1 q.1, ev_cell E σ q) := by
  unfold ev_ws; rw [List.getElem?_map, h]; rfl
theorem ev_up_ne {σ : ev_M} {n v k : Int} (h : k ≠ n) : ev_up σ n v k = σ k := if_neg h
theorem ev_up_eq {σ : ev_M} {n v : Int} : ev_up σ n v n = v := if_pos rfl
/-- stores that agree on a cell's numbers give the same cell -/
theorem ev_cell_eq {E : ev_E} {σ σ' : ev_M} {q : ev_Q} (h : ∀ j : Nat, j < q.2.1 → σ' (q.1 + (j : Int)) = σ (q.1 + (j : Int))) : ev_cell E σ' q = ev_cell E σ q := by
  have h1 : ev_fs E.1 σ' q = ev_fs E.1 σ q := by
    unfold ev_fs
    apply List.map_congr_left
    intro k hk
    unfold ev_fv
    rw [h k (List.mem_range.mp hk)]
  have h2 : ev_av σ' q = ev_av σ q := by
    funext j
    unfold ev_av
    by_cases hj : j < q.2.1
    · rw [if_pos hj, if_pos hj, h j hj]
    · rw [if_neg hj, if_neg hj]
  unfold ev_cell
  rw [h1, h2]
/-- a number of one cell is changed: no other cell is -/
theorem ev_ws_set {lay : ev_Y} {E : ev_E} {σ : ev_M} {q : ev_Q} {k : Nat} (hs : ev_sep lay) (hk : (ev_cs lay)[k]? = some q) {n v : Int} (h0 : q.1 ≤ n) (h1 : n < q.1 + (q.2.1 : Int)) {x : va_E} (hx : x = ev_cell E (ev_up σ n v) q) :
    (ev_ws lay E σ).set k (E.1 q.1, x) = ev_ws lay E (ev_up σ n v) := by
  subst hx
  have hsf : (ev_cs lay).Pairwise (fun q q' => q.1 + (q.2.1 : Int) ≤ q'.1) := List.Pairwise.filter _ hs
  have hkl : k < (ev_cs lay).length := (List.getElem?_eq_some_iff.mp hk).1
  apply List.ext_getElem?
  intro j
  by_cases hj : j = k
  · subst hj
    rw [List.getElem?_set_self (by unfold ev_ws; rw [List.length_map]; exact hkl), ev_at hk]
  · rw [List.getElem?_set_ne (Ne.symm hj)]
    unfold ev_ws
    rw [List.getElem?_map, List.getElem?_map]
    cases hq : (ev_cs lay)[j]? with
    | none => rfl
    | some q' =>
      show some (E.1 q'.1, ev_cell E σ q') = some (E.1 q'.1, ev_cell E (ev_up σ n v) q')
      rw [ev_cell_eq (σ := σ) (σ' := ev_up σ n v)]
      intro i hi
      refine ev_up_ne ?_
      rcases Nat.lt_or_gt_of_ne hj with h | h
      · have := ev_pw hsf j k q' q hq hk h
        intro z; omega
      · have := ev_pw hsf k j q q' hk hq h
        intro z; omega
theorem ev_St_up {lay : ev_Y} {E : ev_E} {σ : ev_M} {U : State} (hs : ev_sep lay) {q : ev_Q} (hq : q ∈ lay) (h4 : q.2.2.1 ≠ 4) {n v : Int} (h0 : q.1 ≤ n) (h1 : n < q.1 + (q.2.1 : Int)) (h : ev_St lay E σ U) : ev_St lay E (ev_up σ n v) U := by
  intro q' hq' h4'
  obtain ⟨a, b⟩ := h q' hq' h4'
  refine ⟨a, ?_⟩
  have he : ev_av (ev_up σ n v) q' = ev_av σ q' := by
    funext j
    unfold ev_av
    by_cases hj : j < q'.2.1
    · rw [if_pos hj, if_pos hj, ev_up_ne]
      rcases ev_pwm hs hq hq' with h | h | h
      · exact absurd (by rw [h]; exact h4') h4
      · intro z; omega
      · intro z; omega
    · rw [if_neg hj, if_neg hj]
  rw [he]
  exact b
theorem ev_in_up {σ : ev_M} {n v : Int} (h : ∀ k, ev_in (σ k)) (hv : ev_in v) : ∀ k, ev_in (ev_up σ n v k) := by
  intro k
  unfold ev_up
  split
  · exact hv
  · exact h k
theorem ev_nw_moved {s U : State} (hW : s.WarmedH U.vm) (h : ∀ w ∈ ev_nw, va_Nw w s) : ∀ w ∈ ev_nw, va_Nw w U := by
  intro w hw
  have h1 := h w hw
  have h2 : ev_isN w = true := (List.mem_filter.mp hw).2
  cases w <;> first | exact va_Nw.warmF hW h1 | exact va_Nw.warmM hW h1 | (simp [ev_isN] at h2)
theorem ev_nw_same {u U : State} (hv : u.vm = U.vm) (h : ∀ w ∈ ev_nw, va_Nw w u) : ∀ w ∈ ev_nw, va_Nw w U := by
  intro w hw
  have h1 := h w hw
  have h2 : ev_isN w = true := (List.mem_filter.mp hw).2
  cases w <;> first | exact va_Nw.same rfl hv h1 | (simp [ev_isN] at h2)
theorem ev_W.moved {lay : ev_Y} {E : ev_E} {σ : ev_M} {s U : State} {H : Heap} {locs : List Loc} (h : ev_W lay E σ s H) (hS : va_S (ev_A lay E) s.heap H locs) (hU : U.heap = H) (hW : s.WarmedH U.vm) : ev_W lay E σ U U.heap := by
  obtain ⟨h1, h2, h3, h4, h5, h6, h7⟩ := h
  refine ⟨by rw [hU]; exact h1, h2, h3.moved hW.alike, ev_nw_moved hW h4, ?_, h6, h7⟩
  intro q hq h4
  obtain ⟨a, b⟩ := h5 q hq h4
  rw [hU]
  exact ⟨(a.kept (fun x h1 h2 => hS.2.1 x h1 h2)).moved hW.alike, (b.kept (fun x h1 h2 => hS.2.1 x h1 h2)).moved hW.alike⟩
theorem ev_W.blind {lay : ev_Y} {E : ev_E} {σ : ev_M} {U V : State} (h : ev_W lay E σ U U.heap) (hh : V.heap = U.heap) (hv : U.vm = V.vm) : ev_W lay E σ V V.heap := by
  obtain ⟨h1, h2, h3, h4, h5, h6, h7⟩ := h
  have ha : U.vm.Alike V.vm := by rw [hv]; exact Vm.Alike.refl _
  refine ⟨by rw [hh]; exact h1, h2, h3.moved ha, ev_nw_same hv h4, ?_, h6, h7⟩
  intro q hq h4
  obtain ⟨a, b⟩ := h5 q hq h4
  rw [hh]
  exact ⟨a.moved ha, b.moved ha⟩
/-- behind a call: the callee's end, seen from the caller's start -/
theorem ev_W.back {lay : ev_Y} {E : ev_E} {σ σ' : ev_M} {s t : State} {H H1 : Heap} {locs : List Loc} (h : ev_W lay E σ s H) (g : ev_W lay E σ' t t.heap) (ht : t.heap = H1) (hS : va_S (ev_A lay E) s.heap H1 locs) : ev_W lay E σ' s H1 := by
  obtain ⟨h1, h2, h3, h4, h5, h6, h7⟩ := h
  obtain ⟨g1, g2, g3, g4, g5, g6, g7⟩ := g
  refine ⟨by rw [← ht]; exact g1, g2, h3, h4, ?_, g6, g7⟩
  intro q hq h4
  obtain ⟨a, cell, b1, b2, b3, b4, b5, b6, b7⟩ := h5 q hq h4
  obtain ⟨-, cell', c1, c2, c3, c4, c5, c6, c7⟩ := g5 q hq h4
  refine ⟨a, cell, b1, b2, b3, b4, b5, ?_, b7⟩
  have hc : cell' = cell := by
    have := hS.2.1 (E.1 q.1) (Array.getElem?_eq_some_iff.mp b1).1 b7
    rw [← ht, c1, b1] at this
    exact Option.some.inj this
  rw [← hc]
  exact c6
