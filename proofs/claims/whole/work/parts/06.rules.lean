theorem ev_okc {a : ev_V} {S : List ev_V} (ha : ev_ok a) (h : ∀ v ∈ S, ev_ok v) : ∀ v ∈ a :: S, ev_ok v := by
  intro v hv
  rcases List.mem_cons.mp hv with h1 | h1
  · rw [h1]; exact ha
  · exact h v h1
theorem ev_oki {i : Int} (h : ev_in i) : ev_ok (iv i) := fun j e => by cases e; exact h
theorem ev_okr (o : Int) : ev_ok (rv o) := fun j e => by cases e
theorem ev_okt {a : ev_V} {S : List ev_V} (h : ∀ v ∈ a :: S, ev_ok v) : ∀ v ∈ S, ev_ok v := fun v hv => h v (List.mem_cons_of_mem _ hv)
theorem ev_okh {i : Int} {S : List ev_V} (h : ∀ v ∈ iv i :: S, ev_ok v) : ev_in i := h _ List.mem_cons_self i rfl
def ev_and (a b : Int) : Int := (Int32.ofInt a &&& Int32.ofInt b).toInt
def ev_or (a b : Int) : Int := (Int32.ofInt a ||| Int32.ofInt b).toInt
def ev_xor (a b : Int) : Int := (Int32.ofInt a ^^^ Int32.ofInt b).toInt
def ev_shl (a b : Int) : Int := (Int32.ofInt a <<< (Int32.ofInt b &&& 31)).toInt
def ev_shr (a b : Int) : Int := (Int32.ofInt a >>> (Int32.ofInt b &&& 31)).toInt
section EVR
variable {I : ev_I} {lay : ev_Y} {pc : Nat} {L : List (Option ev_V)} {S : List ev_V} {σ : ev_M} {Q : Int → ev_M → Prop} {a b : Int}
theorem Ev.iconst {n : Int} (hd : decode I.2.1 pc = .ok (.iconst n, 1)) (hv : ev_in n) (k : Ev I lay (pc + 1) L (iv n :: S) σ Q) : Ev I lay pc L S σ Q := by
  intro p l e s m args below meth c E ls H locs X hL hS hW hV
  exact lv_iconst X.1 X.2.1 hd rfl (k p l e s m args below meth c E ls H locs X hL (ev_okc (ev_oki hv) hS) hW hV)
theorem Ev.bipush {n : Int} (hd : decode I.2.1 pc = .ok (.bipush n, 2)) (hv : ev_in n) (hc : (Int8.ofInt n).toInt32 = Int32.ofInt n) (k : Ev I lay (pc + 2) L (iv n :: S) σ Q) : Ev I lay pc L S σ Q := by
  intro p l e s m args below meth c E ls H locs X hL hS hW hV
  exact lv_bipush X.1 X.2.1 hd hc (k p l e s m args below meth c E ls H locs X hL (ev_okc (ev_oki hv) hS) hW hV)
theorem Ev.sipush {n : Int} (hd : decode I.2.1 pc = .ok (.sipush n, 3)) (hv : ev_in n) (hc : (Int16.ofInt n).toInt32 = Int32.ofInt n) (k : Ev I lay (pc + 3) L (iv n :: S) σ Q) : Ev I lay pc L S σ Q := by
  intro p l e s m args below meth c E ls H locs X hL hS hW hV
  exact lv_sipush X.1 X.2.1 hd hc (k p l e s m args below meth c E ls H locs X hL (ev_okc (ev_oki hv) hS) hW hV)
theorem Ev.iload_n {k : Fin 4} (hd : decode I.2.1 pc = .ok (.iload_n k, 1)) (hv : L[(k : Nat)]? = some (some (iv a))) (kk : Ev I lay (pc + 1) L (iv a :: S) σ Q) : Ev I lay pc L S σ Q := by
  intro p l e s m args below meth c E ls H locs X hL hS hW hV
  exact lv_iload_n X.1 X.2.1 hd rfl (hL.2.2.2.1 _ _ hv) (kk p l e s m args below meth c E ls H locs X hL (ev_okc (hL.2.2.2.2 _ (List.mem_of_getElem? hv)) hS) hW hV)
theorem Ev.iload {i : Nat} (hd : decode I.2.1 pc = .ok (.iload i, 2)) (hv : L[i]? = some (some (iv a))) (kk : Ev I lay (pc + 2) L (iv a :: S) σ Q) : Ev I lay pc L S σ Q := by
  intro p l e s m args below meth c E ls H locs X hL hS hW hV
  exact lv_iload X.1 X.2.1 hd (hL.2.2.2.1 _ _ hv) (kk p l e s m args below meth c E ls H locs X hL (ev_okc (hL.2.2.2.2 _ (List.mem_of_getElem? hv)) hS) hW hV)
theorem Ev.aload_n {k : Fin 4} (hd : decode I.2.1 pc = .ok (.aload_n k, 1)) (hv : L[(k : Nat)]? = some (some (rv a))) (kk : Ev I lay (pc + 1) L (rv a :: S) σ Q) : Ev I lay pc L S σ Q := by
  intro p l e s m args below meth c E ls H locs X hL hS hW hV
  exact lv_aload_n X.1 X.2.1 hd rfl (hL.2.2.2.1 _ _ hv) (kk p l e s m args below meth c E ls H locs X hL (ev_okc (hL.2.2.2.2 _ (List.mem_of_getElem? hv)) hS) hW hV)
theorem Ev.aload {i : Nat} (hd : decode I.2.1 pc = .ok (.aload i, 2)) (hv : L[i]? = some (some (rv a))) (kk : Ev I lay (pc + 2) L (rv a :: S) σ Q) : Ev I lay pc L S σ Q := by
  intro p l e s m args below meth c E ls H locs X hL hS hW hV
  exact lv_aload X.1 X.2.1 hd (hL.2.2.2.1 _ _ hv) (kk p l e s m args below meth c E ls H locs X hL (ev_okc (hL.2.2.2.2 _ (List.mem_of_getElem? hv)) hS) hW hV)
def ev_lv (ad : Int → Nat) (L : List (Option ev_V)) : List (Nat × Value) := (List.range L.length).filterMap (fun k => (L[k]?.join).map (fun v => (k, ev_vl ad v)))
theorem ev_lv_in {ad : Int → Nat} {k : Nat} {v : ev_V} (h : L[k]? = some (some v)) : (k, ev_vl ad v) ∈ ev_lv ad L := by
  unfold ev_lv
  refine List.mem_filterMap.mpr ⟨k, List.mem_range.mpr (List.getElem?_eq_some_iff.mp h).1, ?_⟩
  rw [h]; rfl
theorem ev_lv_has {ad : Int → Nat} {ls : Array Slot} {nL : Nat} (h : ev_L ad ls nL L) : lv_has ls nL (ev_lv ad L) := by
  refine ⟨h.1, h.2.1, fun q hq => ?_⟩
  obtain ⟨k, -, hk⟩ := List.mem_filterMap.mp hq
  cases hl : L[k]? with
  | none => rw [hl] at hk; cases hk
  | some x =>
    cases x with
    | none => rw [hl] at hk; cases hk
    | some v =>
      rw [hl] at hk
      have e : (k, ev_vl ad v) = q := Option.some.inj hk
      rw [← e]
      exact h.2.2.2.1 k v hl
theorem ev_lv_set {ad : Int → Nat} {ls : Array Slot} {nL i : Nat} {v : ev_V} (hn : L.length = nL) (hok : ∀ w, some w ∈ L → ev_ok w) (hv : ev_ok v) (h : lv_has ls nL ((i, ev_vl ad v) :: (ev_lv ad L).filter (fun q => !(q.1 == i) && !(q.1 + 1 == i && q.2.category == 2)))) : ev_L ad ls nL (L.set i (some v)) := by
  refine ⟨h.1, h.2.1, by rw [List.length_set]; exact hn, fun k w hk => ?_, fun w hw => ?_⟩
  · by_cases hki : k = i
    · subst hki
      have hl : k < L.length := by
        have := (List.getElem?_eq_some_iff.mp hk).1
        rwa [List.length_set] at this
      rw [List.getElem?_set_self hl] at hk
      have e : v = w := Option.some.inj (Option.some.inj hk)
      rw [← e]
      exact h.2.2 _ List.mem_cons_self
    · rw [List.getElem?_set_ne (Ne.symm hki)] at hk
      refine h.2.2 (k, ev_vl ad w) (List.mem_cons_of_mem _ (List.mem_filter.mpr ⟨ev_lv_in hk, ?_⟩))
      simp [hki, ev_cat]
  · rcases List.mem_or_eq_of_mem_set hw with h1 | h1
    · exact hok w h1
    · rw [Option.some.inj h1]; exact hv
theorem Ev.istore_n {k : Fin 4} {i : Nat} (hi : (k : Nat) = i) (hd : decode I.2.1 pc = .ok (.istore_n k, 1)) (hn : i < L.length) (kk : Ev I lay (pc + 1) (L.set i (some (iv a))) S σ Q) : Ev I lay pc L (iv a :: S) σ Q := by
  intro p l e s m args below meth c E ls H locs X hL hS hW hV
  exact lv_istore_n X.1 X.2.1 hd hi (ev_lv_has hL) (by rw [← hL.2.2.1]; exact hn) rfl (fun ls' h' => kk p l e s m args below meth c E ls' H locs X (ev_lv_set hL.2.2.1 hL.2.2.2.2 (ev_oki (ev_okh hS)) h') (ev_okt hS) hW hV)
theorem Ev.istore {i : Nat} (hd : decode I.2.1 pc = .ok (.istore i, 2)) (hn : i < L.length) (kk : Ev I lay (pc + 2) (L.set i (some (iv a))) S σ Q) : Ev I lay pc L (iv a :: S) σ Q := by
  intro p l e s m args below meth c E ls H locs X hL hS hW hV
  exact lv_istore X.1 X.2.1 hd  (ev_lv_has hL) (by rw [← hL.2.2.1]; exact hn) rfl (fun ls' h' => kk p l e s m args below meth c E ls' H locs X (ev_lv_set hL.2.2.1 hL.2.2.2.2 (ev_oki (ev_okh hS)) h') (ev_okt hS) hW hV)
theorem Ev.astore_n {k : Fin 4} {i : Nat} (hi : (k : Nat) = i) (hd : decode I.2.1 pc = .ok (.astore_n k, 1)) (hn : i < L.length) (kk : Ev I lay (pc + 1) (L.set i (some (rv a))) S σ Q) : Ev I lay pc L (rv a :: S) σ Q := by
  intro p l e s m args below meth c E ls H locs X hL hS hW hV
  exact lv_astore_n X.1 X.2.1 hd hi (ev_lv_has hL) (by rw [← hL.2.2.1]; exact hn) rfl (fun ls' h' => kk p l e s m args below meth c E ls' H locs X (ev_lv_set hL.2.2.1 hL.2.2.2.2 (ev_okr a) h') (ev_okt hS) hW hV)
theorem Ev.astore {i : Nat} (hd : decode I.2.1 pc = .ok (.astore i, 2)) (hn : i < L.length) (kk : Ev I lay (pc + 2) (L.set i (some (rv a))) S σ Q) : Ev I lay pc L (rv a :: S) σ Q := by
  intro p l e s m args below meth c E ls H locs X hL hS hW hV
  exact lv_astore X.1 X.2.1 hd  (ev_lv_has hL) (by rw [← hL.2.2.1]; exact hn) rfl (fun ls' h' => kk p l e s m args below meth c E ls' H locs X (ev_lv_set hL.2.2.1 hL.2.2.2.2 (ev_okr a) h') (ev_okt hS) hW hV)
theorem Ev.iinc {i : Nat} {n : Int} (hd : decode I.2.1 pc = .ok (.iinc i n, 3)) (hv : L[i]? = some (some (iv a))) (hr : ev_in (a + n)) (kk : Ev I lay (pc + 3) (L.set i (some (iv (a + n)))) S σ Q) : Ev I lay pc L S σ Q := by
  intro p l e s m args below meth c E ls H locs X hL hS hW hV
  obtain ⟨k, hk⟩ := List.getElem?_of_mem (ev_lv_in (ad := E.1) hv)
  exact lv_iinc X.1 X.2.1 hd (ev_lv_has hL) hk (by rw [← Int32.ofInt_add]) (by rw [← hL.2.2.1]; exact (List.getElem?_eq_some_iff.mp hv).1) rfl (fun ls' h' => kk p l e s m args below meth c E ls' H locs X (ev_lv_set (v := iv (a + n)) hL.2.2.1 hL.2.2.2.2 (ev_oki hr) h') hS hW hV)
theorem Ev.istore0 {x0 : Option ev_V} {k : Fin 4} (hi : (k : Nat) = 0) (hd : decode I.2.1 pc = .ok (.istore_n k, 1)) (kk : Ev I lay (pc + 1) (some (iv a) :: L) S σ Q) : Ev I lay pc (x0 :: L) (iv a :: S) σ Q := Ev.istore_n hi hd (by simp) kk
theorem Ev.astore0 {x0 : Option ev_V} {k : Fin 4} (hi : (k : Nat) = 0) (hd : decode I.2.1 pc = .ok (.astore_n k, 1)) (kk : Ev I lay (pc + 1) (some (rv a) :: L) S σ Q) : Ev I lay pc (x0 :: L) (rv a :: S) σ Q := Ev.astore_n hi hd (by simp) kk
theorem Ev.iinc0  {d : Int} (hd : decode I.2.1 pc = .ok (.iinc 0 d, 3)) (hr : ev_in (a + d)) (kk : Ev I lay (pc + 3) (some (iv (a + d)) :: L) S σ Q) : Ev I lay pc (some (iv a) :: L) S σ Q := Ev.iinc hd rfl hr kk
theorem Ev.istore1 {x0 x1 : Option ev_V} {k : Fin 4} (hi : (k : Nat) = 1) (hd : decode I.2.1 pc = .ok (.istore_n k, 1)) (kk : Ev I lay (pc + 1) (x0 :: some (iv a) :: L) S σ Q) : Ev I lay pc (x0 :: x1 :: L) (iv a :: S) σ Q := Ev.istore_n hi hd (by simp) kk
theorem Ev.astore1 {x0 x1 : Option ev_V} {k : Fin 4} (hi : (k : Nat) = 1) (hd : decode I.2.1 pc = .ok (.astore_n k, 1)) (kk : Ev I lay (pc + 1) (x0 :: some (rv a) :: L) S σ Q) : Ev I lay pc (x0 :: x1 :: L) (rv a :: S) σ Q := Ev.astore_n hi hd (by simp) kk
theorem Ev.iinc1 {x0 : Option ev_V} {d : Int} (hd : decode I.2.1 pc = .ok (.iinc 1 d, 3)) (hr : ev_in (a + d)) (kk : Ev I lay (pc + 3) (x0 :: some (iv (a + d)) :: L) S σ Q) : Ev I lay pc (x0 :: some (iv a) :: L) S σ Q := Ev.iinc hd rfl hr kk
theorem Ev.istore2 {x0 x1 x2 : Option ev_V} {k : Fin 4} (hi : (k : Nat) = 2) (hd : decode I.2.1 pc = .ok (.istore_n k, 1)) (kk : Ev I lay (pc + 1) (x0 :: x1 :: some (iv a) :: L) S σ Q) : Ev I lay pc (x0 :: x1 :: x2 :: L) (iv a :: S) σ Q := Ev.istore_n hi hd (by simp) kk
theorem Ev.astore2 {x0 x1 x2 : Option ev_V} {k : Fin 4} (hi : (k : Nat) = 2) (hd : decode I.2.1 pc = .ok (.astore_n k, 1)) (kk : Ev I lay (pc + 1) (x0 :: x1 :: some (rv a) :: L) S σ Q) : Ev I lay pc (x0 :: x1 :: x2 :: L) (rv a :: S) σ Q := Ev.astore_n hi hd (by simp) kk
theorem Ev.iinc2 {x0 x1 : Option ev_V} {d : Int} (hd : decode I.2.1 pc = .ok (.iinc 2 d, 3)) (hr : ev_in (a + d)) (kk : Ev I lay (pc + 3) (x0 :: x1 :: some (iv (a + d)) :: L) S σ Q) : Ev I lay pc (x0 :: x1 :: some (iv a) :: L) S σ Q := Ev.iinc hd rfl hr kk
theorem Ev.istore3 {x0 x1 x2 x3 : Option ev_V} {k : Fin 4} (hi : (k : Nat) = 3) (hd : decode I.2.1 pc = .ok (.istore_n k, 1)) (kk : Ev I lay (pc + 1) (x0 :: x1 :: x2 :: some (iv a) :: L) S σ Q) : Ev I lay pc (x0 :: x1 :: x2 :: x3 :: L) (iv a :: S) σ Q := Ev.istore_n hi hd (by simp) kk
theorem Ev.astore3 {x0 x1 x2 x3 : Option ev_V} {k : Fin 4} (hi : (k : Nat) = 3) (hd : decode I.2.1 pc = .ok (.astore_n k, 1)) (kk : Ev I lay (pc + 1) (x0 :: x1 :: x2 :: some (rv a) :: L) S σ Q) : Ev I lay pc (x0 :: x1 :: x2 :: x3 :: L) (rv a :: S) σ Q := Ev.astore_n hi hd (by simp) kk
theorem Ev.iinc3 {x0 x1 x2 : Option ev_V} {d : Int} (hd : decode I.2.1 pc = .ok (.iinc 3 d, 3)) (hr : ev_in (a + d)) (kk : Ev I lay (pc + 3) (x0 :: x1 :: x2 :: some (iv (a + d)) :: L) S σ Q) : Ev I lay pc (x0 :: x1 :: x2 :: some (iv a) :: L) S σ Q := Ev.iinc hd rfl hr kk
theorem Ev.istore4 {x0 x1 x2 x3 x4 : Option ev_V} (hd : decode I.2.1 pc = .ok (.istore 4, 2)) (kk : Ev I lay (pc + 2) (x0 :: x1 :: x2 :: x3 :: some (iv a) :: L) S σ Q) : Ev I lay pc (x0 :: x1 :: x2 :: x3 :: x4 :: L) (iv a :: S) σ Q := Ev.istore hd (by simp) kk
theorem Ev.astore4 {x0 x1 x2 x3 x4 : Option ev_V} (hd : decode I.2.1 pc = .ok (.astore 4, 2)) (kk : Ev I lay (pc + 2) (x0 :: x1 :: x2 :: x3 :: some (rv a) :: L) S σ Q) : Ev I lay pc (x0 :: x1 :: x2 :: x3 :: x4 :: L) (rv a :: S) σ Q := Ev.astore hd (by simp) kk
theorem Ev.iinc4 {x0 x1 x2 x3 : Option ev_V} {d : Int} (hd : decode I.2.1 pc = .ok (.iinc 4 d, 3)) (hr : ev_in (a + d)) (kk : Ev I lay (pc + 3) (x0 :: x1 :: x2 :: x3 :: some (iv (a + d)) :: L) S σ Q) : Ev I lay pc (x0 :: x1 :: x2 :: x3 :: some (iv a) :: L) S σ Q := Ev.iinc hd rfl hr kk
theorem Ev.istore5 {x0 x1 x2 x3 x4 x5 : Option ev_V} (hd : decode I.2.1 pc = .ok (.istore 5, 2)) (kk : Ev I lay (pc + 2) (x0 :: x1 :: x2 :: x3 :: x4 :: some (iv a) :: L) S σ Q) : Ev I lay pc (x0 :: x1 :: x2 :: x3 :: x4 :: x5 :: L) (iv a :: S) σ Q := Ev.istore hd (by simp) kk
theorem Ev.astore5 {x0 x1 x2 x3 x4 x5 : Option ev_V} (hd : decode I.2.1 pc = .ok (.astore 5, 2)) (kk : Ev I lay (pc + 2) (x0 :: x1 :: x2 :: x3 :: x4 :: some (rv a) :: L) S σ Q) : Ev I lay pc (x0 :: x1 :: x2 :: x3 :: x4 :: x5 :: L) (rv a :: S) σ Q := Ev.astore hd (by simp) kk
theorem Ev.iinc5 {x0 x1 x2 x3 x4 : Option ev_V} {d : Int} (hd : decode I.2.1 pc = .ok (.iinc 5 d, 3)) (hr : ev_in (a + d)) (kk : Ev I lay (pc + 3) (x0 :: x1 :: x2 :: x3 :: x4 :: some (iv (a + d)) :: L) S σ Q) : Ev I lay pc (x0 :: x1 :: x2 :: x3 :: x4 :: some (iv a) :: L) S σ Q := Ev.iinc hd rfl hr kk
theorem Ev.istore6 {x0 x1 x2 x3 x4 x5 x6 : Option ev_V} (hd : decode I.2.1 pc = .ok (.istore 6, 2)) (kk : Ev I lay (pc + 2) (x0 :: x1 :: x2 :: x3 :: x4 :: x5 :: some (iv a) :: L) S σ Q) : Ev I lay pc (x0 :: x1 :: x2 :: x3 :: x4 :: x5 :: x6 :: L) (iv a :: S) σ Q := Ev.istore hd (by simp) kk
theorem Ev.astore6 {x0 x1 x2 x3 x4 x5 x6 : Option ev_V} (hd : decode I.2.1 pc = .ok (.astore 6, 2)) (kk : Ev I lay (pc + 2) (x0 :: x1 :: x2 :: x3 :: x4 :: x5 :: some (rv a) :: L) S σ Q) : Ev I lay pc (x0 :: x1 :: x2 :: x3 :: x4 :: x5 :: x6 :: L) (rv a :: S) σ Q := Ev.astore hd (by simp) kk
theorem Ev.iinc6 {x0 x1 x2 x3 x4 x5 : Option ev_V} {d : Int} (hd : decode I.2.1 pc = .ok (.iinc 6 d, 3)) (hr : ev_in (a + d)) (kk : Ev I lay (pc + 3) (x0 :: x1 :: x2 :: x3 :: x4 :: x5 :: some (iv (a + d)) :: L) S σ Q) : Ev I lay pc (x0 :: x1 :: x2 :: x3 :: x4 :: x5 :: some (iv a) :: L) S σ Q := Ev.iinc hd rfl hr kk
theorem Ev.istore7 {x0 x1 x2 x3 x4 x5 x6 x7 : Option ev_V} (hd : decode I.2.1 pc = .ok (.istore 7, 2)) (kk : Ev I lay (pc + 2) (x0 :: x1 :: x2 :: x3 :: x4 :: x5 :: x6 :: some (iv a) :: L) S σ Q) : Ev I lay pc (x0 :: x1 :: x2 :: x3 :: x4 :: x5 :: x6 :: x7 :: L) (iv a :: S) σ Q := Ev.istore hd (by simp) kk
theorem Ev.astore7 {x0 x1 x2 x3 x4 x5 x6 x7 : Option ev_V} (hd : decode I.2.1 pc = .ok (.astore 7, 2)) (kk : Ev I lay (pc + 2) (x0 :: x1 :: x2 :: x3 :: x4 :: x5 :: x6 :: some (rv a) :: L) S σ Q) : Ev I lay pc (x0 :: x1 :: x2 :: x3 :: x4 :: x5 :: x6 :: x7 :: L) (rv a :: S) σ Q := Ev.astore hd (by simp) kk
theorem Ev.iinc7 {x0 x1 x2 x3 x4 x5 x6 : Option ev_V} {d : Int} (hd : decode I.2.1 pc = .ok (.iinc 7 d, 3)) (hr : ev_in (a + d)) (kk : Ev I lay (pc + 3) (x0 :: x1 :: x2 :: x3 :: x4 :: x5 :: x6 :: some (iv (a + d)) :: L) S σ Q) : Ev I lay pc (x0 :: x1 :: x2 :: x3 :: x4 :: x5 :: x6 :: some (iv a) :: L) S σ Q := Ev.iinc hd rfl hr kk
theorem Ev.istore8 {x0 x1 x2 x3 x4 x5 x6 x7 x8 : Option ev_V} (hd : decode I.2.1 pc = .ok (.istore 8, 2)) (kk : Ev I lay (pc + 2) (x0 :: x1 :: x2 :: x3 :: x4 :: x5 :: x6 :: x7 :: some (iv a) :: L) S σ Q) : Ev I lay pc (x0 :: x1 :: x2 :: x3 :: x4 :: x5 :: x6 :: x7 :: x8 :: L) (iv a :: S) σ Q := Ev.istore hd (by simp) kk
theorem Ev.astore8 {x0 x1 x2 x3 x4 x5 x6 x7 x8 : Option ev_V} (hd : decode I.2.1 pc = .ok (.astore 8, 2)) (kk : Ev I lay (pc + 2) (x0 :: x1 :: x2 :: x3 :: x4 :: x5 :: x6 :: x7 :: some (rv a) :: L) S σ Q) : Ev I lay pc (x0 :: x1 :: x2 :: x3 :: x4 :: x5 :: x6 :: x7 :: x8 :: L) (rv a :: S) σ Q := Ev.astore hd (by simp) kk
theorem Ev.iinc8 {x0 x1 x2 x3 x4 x5 x6 x7 : Option ev_V} {d : Int} (hd : decode I.2.1 pc = .ok (.iinc 8 d, 3)) (hr : ev_in (a + d)) (kk : Ev I lay (pc + 3) (x0 :: x1 :: x2 :: x3 :: x4 :: x5 :: x6 :: x7 :: some (iv (a + d)) :: L) S σ Q) : Ev I lay pc (x0 :: x1 :: x2 :: x3 :: x4 :: x5 :: x6 :: x7 :: some (iv a) :: L) S σ Q := Ev.iinc hd rfl hr kk
theorem Ev.istore9 {x0 x1 x2 x3 x4 x5 x6 x7 x8 x9 : Option ev_V} (hd : decode I.2.1 pc = .ok (.istore 9, 2)) (kk : Ev I lay (pc + 2) (x0 :: x1 :: x2 :: x3 :: x4 :: x5 :: x6 :: x7 :: x8 :: some (iv a) :: L) S σ Q) : Ev I lay pc (x0 :: x1 :: x2 :: x3 :: x4 :: x5 :: x6 :: x7 :: x8 :: x9 :: L) (iv a :: S) σ Q := Ev.istore hd (by simp) kk
theorem Ev.astore9 {x0 x1 x2 x3 x4 x5 x6 x7 x8 x9 : Option ev_V} (hd : decode I.2.1 pc = .ok (.astore 9, 2)) (kk : Ev I lay (pc + 2) (x0 :: x1 :: x2 :: x3 :: x4 :: x5 :: x6 :: x7 :: x8 :: some (rv a) :: L) S σ Q) : Ev I lay pc (x0 :: x1 :: x2 :: x3 :: x4 :: x5 :: x6 :: x7 :: x8 :: x9 :: L) (rv a :: S) σ Q := Ev.astore hd (by simp) kk
theorem Ev.iinc9 {x0 x1 x2 x3 x4 x5 x6 x7 x8 : Option ev_V} {d : Int} (hd : decode I.2.1 pc = .ok (.iinc 9 d, 3)) (hr : ev_in (a + d)) (kk : Ev I lay (pc + 3) (x0 :: x1 :: x2 :: x3 :: x4 :: x5 :: x6 :: x7 :: x8 :: some (iv (a + d)) :: L) S σ Q) : Ev I lay pc (x0 :: x1 :: x2 :: x3 :: x4 :: x5 :: x6 :: x7 :: x8 :: some (iv a) :: L) S σ Q := Ev.iinc hd rfl hr kk
theorem Ev.iadd (hd : decode I.2.1 pc = .ok (.iadd, 1)) (hr : ev_in (a + b)) (k : Ev I lay (pc + 1) L (iv (a + b) :: S) σ Q) : Ev I lay pc L (iv b :: iv a :: S) σ Q := by
  intro p l e s m args below meth c E ls H locs X hL hS hW hV
  refine lv_iadd (x := Int32.ofInt a) (y := Int32.ofInt b) (rest := S.map (ev_vl E.1)) X.1 X.2.1 hd ?_
  rw [← Int32.ofInt_add]
  exact k p l e s m args below meth c E ls H locs X hL (ev_okc (ev_oki hr) (ev_okt (ev_okt hS))) hW hV
theorem Ev.isub (hd : decode I.2.1 pc = .ok (.isub, 1)) (hr : ev_in (a - b)) (k : Ev I lay (pc + 1) L (iv (a - b) :: S) σ Q) : Ev I lay pc L (iv b :: iv a :: S) σ Q := by
  intro p l e s m args below meth c E ls H locs X hL hS hW hV
  refine lv_isub (x := Int32.ofInt a) (y := Int32.ofInt b) (rest := S.map (ev_vl E.1)) X.1 X.2.1 hd ?_
  rw [← Int32.ofInt_sub]
  exact k p l e s m args below meth c E ls H locs X hL (ev_okc (ev_oki hr) (ev_okt (ev_okt hS))) hW hV
theorem Ev.imul (hd : decode I.2.1 pc = .ok (.imul, 1)) (hr : ev_in (a * b)) (k : Ev I lay (pc + 1) L (iv (a * b) :: S) σ Q) : Ev I lay pc L (iv b :: iv a :: S) σ Q := by
  intro p l e s m args below meth c E ls H locs X hL hS hW hV
  refine lv_imul (x := Int32.ofInt a) (y := Int32.ofInt b) (rest := S.map (ev_vl E.1)) X.1 X.2.1 hd ?_
  rw [← Int32.ofInt_mul]
  exact k p l e s m args below meth c E ls H locs X hL (ev_okc (ev_oki hr) (ev_okt (ev_okt hS))) hW hV
theorem Ev.iand (hd : decode I.2.1 pc = .ok (.iand, 1)) (k : Ev I lay (pc + 1) L (iv (ev_and a b) :: S) σ Q) : Ev I lay pc L (iv b :: iv a :: S) σ Q := by
  intro p l e s m args below meth c E ls H locs X hL hS hW hV
  refine lv_iand (x := Int32.ofInt a) (y := Int32.ofInt b) (rest := S.map (ev_vl E.1)) X.1 X.2.1 hd ?_
  have := k p l e s m args below meth c E ls H locs X hL (ev_okc (ev_oki (ev_in_toInt _)) (ev_okt (ev_okt hS))) hW hV
  rw [List.map_cons, show ev_vl E.1 (iv (ev_and a b)) = Value.int (Int32.ofInt (ev_and a b)) from rfl] at this
  unfold ev_and at this
  rwa [ev_ofInt] at this
theorem Ev.ior (hd : decode I.2.1 pc = .ok (.ior, 1)) (k : Ev I lay (pc + 1) L (iv (ev_or a b) :: S) σ Q) : Ev I lay pc L (iv b :: iv a :: S) σ Q := by
  intro p l e s m args below meth c E ls H locs X hL hS hW hV
  refine lv_ior (x := Int32.ofInt a) (y := Int32.ofInt b) (rest := S.map (ev_vl E.1)) X.1 X.2.1 hd ?_
  have := k p l e s m args below meth c E ls H locs X hL (ev_okc (ev_oki (ev_in_toInt _)) (ev_okt (ev_okt hS))) hW hV
  rw [List.map_cons, show ev_vl E.1 (iv (ev_or a b)) = Value.int (Int32.ofInt (ev_or a b)) from rfl] at this
  unfold ev_or at this
  rwa [ev_ofInt] at this
theorem Ev.ixor (hd : decode I.2.1 pc = .ok (.ixor, 1)) (k : Ev I lay (pc + 1) L (iv (ev_xor a b) :: S) σ Q) : Ev I lay pc L (iv b :: iv a :: S) σ Q := by
  intro p l e s m args below meth c E ls H locs X hL hS hW hV
  refine lv_ixor (x := Int32.ofInt a) (y := Int32.ofInt b) (rest := S.map (ev_vl E.1)) X.1 X.2.1 hd ?_
  have := k p l e s m args below meth c E ls H locs X hL (ev_okc (ev_oki (ev_in_toInt _)) (ev_okt (ev_okt hS))) hW hV
  rw [List.map_cons, show ev_vl E.1 (iv (ev_xor a b)) = Value.int (Int32.ofInt (ev_xor a b)) from rfl] at this
  unfold ev_xor at this
  rwa [ev_ofInt] at this
theorem Ev.ishl (hd : decode I.2.1 pc = .ok (.ishl, 1)) (k : Ev I lay (pc + 1) L (iv (ev_shl a b) :: S) σ Q) : Ev I lay pc L (iv b :: iv a :: S) σ Q := by
  intro p l e s m args below meth c E ls H locs X hL hS hW hV
  refine lv_ishl (x := Int32.ofInt a) (y := Int32.ofInt b) (rest := S.map (ev_vl E.1)) X.1 X.2.1 hd ?_
  have := k p l e s m args below meth c E ls H locs X hL (ev_okc (ev_oki (ev_in_toInt _)) (ev_okt (ev_okt hS))) hW hV
  rw [List.map_cons, show ev_vl E.1 (iv (ev_shl a b)) = Value.int (Int32.ofInt (ev_shl a b)) from rfl] at this
  unfold ev_shl at this
  rwa [ev_ofInt] at this
theorem Ev.ishr (hd : decode I.2.1 pc = .ok (.ishr, 1)) (k : Ev I lay (pc + 1) L (iv (ev_shr a b) :: S) σ Q) : Ev I lay pc L (iv b :: iv a :: S) σ Q := by
  intro p l e s m args below meth c E ls H locs X hL hS hW hV
  refine lv_ishr (x := Int32.ofInt a) (y := Int32.ofInt b) (rest := S.map (ev_vl E.1)) X.1 X.2.1 hd ?_
  have := k p l e s m args below meth c E ls H locs X hL (ev_okc (ev_oki (ev_in_toInt _)) (ev_okt (ev_okt hS))) hW hV
  rw [List.map_cons, show ev_vl E.1 (iv (ev_shr a b)) = Value.int (Int32.ofInt (ev_shr a b)) from rfl] at this
  unfold ev_shr at this
  rwa [ev_ofInt] at this
theorem ev_div {a b : Int} (ha : ev_in a) (hb : ev_in b) (h0 : 0 ≤ a) (h1 : 0 < b) : Int32.ofInt a / Int32.ofInt b = Int32.ofInt (a / b) := by
  have hq : 0 ≤ a / b := Int.ediv_nonneg h0 (by omega)
  have hq2 : a / b ≤ a := Int.ediv_le_self b h0
  have hr : ev_in (a / b) := ⟨by omega, by have := ha.2; omega⟩
  apply Int32.toInt_inj.mp
  rw [Int32.toInt_div, ev_toInt ha, ev_toInt hb, ev_toInt hr, Int.tdiv_eq_ediv_of_nonneg h0]
  apply Int.bmod_eq_of_le <;> (have := hr.1; have := hr.2; omega)
theorem Ev.idiv (hd : decode I.2.1 pc = .ok (.idiv, 1)) (h0 : 0 ≤ a) (h1 : 0 < b) (k : Ev I lay (pc + 1) L (iv (a / b) :: S) σ Q) : Ev I lay pc L (iv b :: iv a :: S) σ Q := by
  intro p l e s m args below meth c E ls H locs X hL hS hW hV
  have hb := ev_okh hS
  have ha := ev_okh (ev_okt hS)
  have hq : 0 ≤ a / b := Int.ediv_nonneg h0 (by omega)
  have hq2 : a / b ≤ a := Int.ediv_le_self b h0
  refine lv_idiv (x := Int32.ofInt a) (y := Int32.ofInt b) (rest := S.map (ev_vl E.1)) X.1 X.2.1 hd (fun z => by have := (ev_eq hb ⟨by decide, by decide⟩ (b := 0)).mp z; omega) ?_
  rw [ev_div ha hb h0 h1]
  exact k p l e s m args below meth c E ls H locs X hL (ev_okc (ev_oki ⟨by omega, by have := ha.2; omega⟩) (ev_okt (ev_okt hS))) hW hV
theorem Ev.irem (hd : decode I.2.1 pc = .ok (.irem, 1)) (h0 : 0 ≤ a) (h1 : 0 < b) (k : Ev I lay (pc + 1) L (iv (a % b) :: S) σ Q) : Ev I lay pc L (iv b :: iv a :: S) σ Q := by
  intro p l e s m args below meth c E ls H locs X hL hS hW hV
  have hb := ev_okh hS
  have ha := ev_okh (ev_okt hS)
  have hq := Int.emod_nonneg a (b := b) (by omega)
  have hq2 := Int.emod_lt_of_pos a h1
  refine lv_irem (x := Int32.ofInt a) (y := Int32.ofInt b) (rest := S.map (ev_vl E.1)) X.1 X.2.1 hd (fun z => by have := (ev_eq hb ⟨by decide, by decide⟩ (b := 0)).mp z; omega) ?_
  rw [ev_div ha hb h0 h1, ← Int32.ofInt_mul, ← Int32.ofInt_sub, show a - a / b * b = a % b by rw [Int.emod_def, Int.mul_comm]]
  exact k p l e s m args below meth c E ls H locs X hL (ev_okc (ev_oki ⟨by omega, by have := hb.2; omega⟩) (ev_okt (ev_okt hS))) hW hV
theorem Ev.i2c (hd : decode I.2.1 pc = .ok (.i2c, 1)) (h0 : 0 ≤ a) (h1 : a < 65536) (hc : ((Int32.ofInt a).toUInt32 % 65536).toInt32 = Int32.ofInt a) (k : Ev I lay (pc + 1) L (iv a :: S) σ Q) : Ev I lay pc L (iv a :: S) σ Q := by
  intro p l e s m args below meth c E ls H locs X hL hS hW hV
  exact lv_i2c (x := Int32.ofInt a) (rest := S.map (ev_vl E.1)) X.1 X.2.1 hd hc (k p l e s m args below meth c E ls H locs X hL hS hW hV)
theorem Ev.dup {v : ev_V} (hd : decode I.2.1 pc = .ok (.dup, 1)) (k : Ev I lay (pc + 1) L (v :: v :: S) σ Q) : Ev I lay pc L (v :: S) σ Q := by
  intro p l e s m args below meth c E ls H locs X hL hS hW hV
  exact lv_dup (rest := S.map (ev_vl E.1)) X.1 X.2.1 hd (ev_cat E.1 v) (k p l e s m args below meth c E ls H locs X hL (ev_okc (hS v List.mem_cons_self) hS) hW hV)
theorem Ev.pop {v : ev_V} (hd : decode I.2.1 pc = .ok (.pop, 1)) (k : Ev I lay (pc + 1) L S σ Q) : Ev I lay pc L (v :: S) σ Q := by
  intro p l e s m args below meth c E ls H locs X hL hS hW hV
  exact lv_pop (rest := S.map (ev_vl E.1)) X.1 X.2.1 hd (ev_cat E.1 v) (k p l e s m args below meth c E ls H locs X hL (ev_okt hS) hW hV)
theorem Ev.dup2 {v u : ev_V} (hd : decode I.2.1 pc = .ok (.dup2, 1)) (k : Ev I lay (pc + 1) L (v :: u :: v :: u :: S) σ Q) : Ev I lay pc L (v :: u :: S) σ Q := by
  intro p l e s m args below meth c E ls H locs X hL hS hW hV
  exact lv_dup2_11 (rest := S.map (ev_vl E.1)) X.1 X.2.1 hd (ev_cat E.1 v) (ev_cat E.1 u) (k p l e s m args below meth c E ls H locs X hL (ev_okc (hS v List.mem_cons_self) (ev_okc (hS u (List.mem_cons_of_mem _ List.mem_cons_self)) hS)) hW hV)
theorem Ev.goto {off : Int} {tgt : Nat} (hd : decode I.2.1 pc = .ok (.goto off, 3)) (ht : (pc : Int) + off = (tgt : Int)) (k : Ev I lay tgt L S σ Q) : Ev I lay pc L S σ Q := by
  intro p l e s m args below meth c E ls H locs X hL hS hW hV
  exact lv_goto X.1 X.2.1 hd ht (k p l e s m args below meth c E ls H locs X hL hS hW hV)
theorem Ev.icmp_eq {off : Int} {tgt : Nat} (hd : decode I.2.1 pc = .ok (.if_icmp .eq off, 3)) (ht : (pc : Int) + off = (tgt : Int)) (kt : a = b → Ev I lay tgt L S σ Q) (kf : a ≠ b → Ev I lay (pc + 3) L S σ Q) : Ev I lay pc L (iv b :: iv a :: S) σ Q := by
  intro p l e s m args below meth c E ls H locs X hL hS hW hV
  have hb := ev_okh hS
  have ha := ev_okh (ev_okt hS)
  have hT := ev_okt (ev_okt hS)
  exact lv_icmp_eq (x := Int32.ofInt a) (y := Int32.ofInt b) (rest := S.map (ev_vl E.1)) X.1 X.2.1 hd ht (fun z => kt ((ev_eq ha hb).mp z) p l e s m args below meth c E ls H locs X hL hT hW hV) (fun z => kf (fun y => z ((ev_eq ha hb).mpr y)) p l e s m args below meth c E ls H locs X hL hT hW hV)
theorem Ev.if_eq {off : Int} {tgt : Nat} (hd : decode I.2.1 pc = .ok (.ifCond .eq off, 3)) (ht : (pc : Int) + off = (tgt : Int)) (kt : a = 0 → Ev I lay tgt L S σ Q) (kf : a ≠ 0 → Ev I lay (pc + 3) L S σ Q) : Ev I lay pc L (iv a :: S) σ Q := by
  intro p l e s m args below meth c E ls H locs X hL hS hW hV
  have ha := ev_okh hS
  have hb : ev_in 0 := ⟨by decide, by decide⟩
  have hT := ev_okt hS
  exact lv_if_eq (x := Int32.ofInt a) (rest := S.map (ev_vl E.1)) X.1 X.2.1 hd ht (fun z => kt ((ev_eq ha hb).mp z) p l e s m args below meth c E ls H locs X hL hT hW hV) (fun z => kf (fun y => z ((ev_eq ha hb).mpr y)) p l e s m args below meth c E ls H locs X hL hT hW hV)
theorem Ev.icmp_ne {off : Int} {tgt : Nat} (hd : decode I.2.1 pc = .ok (.if_icmp .ne off, 3)) (ht : (pc : Int) + off = (tgt : Int)) (kt : a ≠ b → Ev I lay tgt L S σ Q) (kf : a = b → Ev I lay (pc + 3) L S σ Q) : Ev I lay pc L (iv b :: iv a :: S) σ Q := by
  intro p l e s m args below meth c E ls H locs X hL hS hW hV
  have hb := ev_okh hS
  have ha := ev_okh (ev_okt hS)
  have hT := ev_okt (ev_okt hS)
  exact lv_icmp_ne (x := Int32.ofInt a) (y := Int32.ofInt b) (rest := S.map (ev_vl E.1)) X.1 X.2.1 hd ht (fun z => kt (fun y => z ((ev_eq ha hb).mpr y)) p l e s m args below meth c E ls H locs X hL hT hW hV) (fun z => kf ((ev_eq ha hb).mp z) p l e s m args below meth c E ls H locs X hL hT hW hV)
theorem Ev.if_ne {off : Int} {tgt : Nat} (hd : decode I.2.1 pc = .ok (.ifCond .ne off, 3)) (ht : (pc : Int) + off = (tgt : Int)) (kt : a ≠ 0 → Ev I lay tgt L S σ Q) (kf : a = 0 → Ev I lay (pc + 3) L S σ Q) : Ev I lay pc L (iv a :: S) σ Q := by
  intro p l e s m args below meth c E ls H locs X hL hS hW hV
  have ha := ev_okh hS
  have hb : ev_in 0 := ⟨by decide, by decide⟩
  have hT := ev_okt hS
  exact lv_if_ne (x := Int32.ofInt a) (rest := S.map (ev_vl E.1)) X.1 X.2.1 hd ht (fun z => kt (fun y => z ((ev_eq ha hb).mpr y)) p l e s m args below meth c E ls H locs X hL hT hW hV) (fun z => kf ((ev_eq ha hb).mp z) p l e s m args below meth c E ls H locs X hL hT hW hV)
theorem Ev.icmp_lt {off : Int} {tgt : Nat} (hd : decode I.2.1 pc = .ok (.if_icmp .lt off, 3)) (ht : (pc : Int) + off = (tgt : Int)) (kt : a < b → Ev I lay tgt L S σ Q) (kf : b ≤ a → Ev I lay (pc + 3) L S σ Q) : Ev I lay pc L (iv b :: iv a :: S) σ Q := by
  intro p l e s m args below meth c E ls H locs X hL hS hW hV
  have hb := ev_okh hS
  have ha := ev_okh (ev_okt hS)
  have hT := ev_okt (ev_okt hS)
  exact lv_icmp_lt (x := Int32.ofInt a) (y := Int32.ofInt b) (rest := S.map (ev_vl E.1)) X.1 X.2.1 hd ht (fun z => kt ((ev_lt ha hb).mp z) p l e s m args below meth c E ls H locs X hL hT hW hV) (fun z => kf (by have := (not_congr (ev_lt ha hb)).mp z; omega) p l e s m args below meth c E ls H locs X hL hT hW hV)
theorem Ev.if_lt {off : Int} {tgt : Nat} (hd : decode I.2.1 pc = .ok (.ifCond .lt off, 3)) (ht : (pc : Int) + off = (tgt : Int)) (kt : a < 0 → Ev I lay tgt L S σ Q) (kf : 0 ≤ a → Ev I lay (pc + 3) L S σ Q) : Ev I lay pc L (iv a :: S) σ Q := by
  intro p l e s m args below meth c E ls H locs X hL hS hW hV
  have ha := ev_okh hS
  have hb : ev_in 0 := ⟨by decide, by decide⟩
  have hT := ev_okt hS
  exact lv_if_lt (x := Int32.ofInt a) (rest := S.map (ev_vl E.1)) X.1 X.2.1 hd ht (fun z => kt ((ev_lt ha hb).mp z) p l e s m args below meth c E ls H locs X hL hT hW hV) (fun z => kf (by have := (not_congr (ev_lt ha hb)).mp z; omega) p l e s m args below meth c E ls H locs X hL hT hW hV)
theorem Ev.icmp_ge {off : Int} {tgt : Nat} (hd : decode I.2.1 pc = .ok (.if_icmp .ge off, 3)) (ht : (pc : Int) + off = (tgt : Int)) (kt : b ≤ a → Ev I lay tgt L S σ Q) (kf : a < b → Ev I lay (pc + 3) L S σ Q) : Ev I lay pc L (iv b :: iv a :: S) σ Q := by
  intro p l e s m args below meth c E ls H locs X hL hS hW hV
  have hb := ev_okh hS
  have ha := ev_okh (ev_okt hS)
  have hT := ev_okt (ev_okt hS)
  exact lv_icmp_ge (x := Int32.ofInt a) (y := Int32.ofInt b) (rest := S.map (ev_vl E.1)) X.1 X.2.1 hd ht (fun z => kt ((ev_le hb ha).mp z) p l e s m args below meth c E ls H locs X hL hT hW hV) (fun z => kf (by have := (not_congr (ev_le hb ha)).mp z; omega) p l e s m args below meth c E ls H locs X hL hT hW hV)
theorem Ev.if_ge {off : Int} {tgt : Nat} (hd : decode I.2.1 pc = .ok (.ifCond .ge off, 3)) (ht : (pc : Int) + off = (tgt : Int)) (kt : 0 ≤ a → Ev I lay tgt L S σ Q) (kf : a < 0 → Ev I lay (pc + 3) L S σ Q) : Ev I lay pc L (iv a :: S) σ Q := by
  intro p l e s m args below meth c E ls H locs X hL hS hW hV
  have ha := ev_okh hS
  have hb : ev_in 0 := ⟨by decide, by decide⟩
  have hT := ev_okt hS
  exact lv_if_ge (x := Int32.ofInt a) (rest := S.map (ev_vl E.1)) X.1 X.2.1 hd ht (fun z => kt ((ev_le hb ha).mp z) p l e s m args below meth c E ls H locs X hL hT hW hV) (fun z => kf (by have := (not_congr (ev_le hb ha)).mp z; omega) p l e s m args below meth c E ls H locs X hL hT hW hV)
theorem Ev.icmp_gt {off : Int} {tgt : Nat} (hd : decode I.2.1 pc = .ok (.if_icmp .gt off, 3)) (ht : (pc : Int) + off = (tgt : Int)) (kt : b < a → Ev I lay tgt L S σ Q) (kf : a ≤ b → Ev I lay (pc + 3) L S σ Q) : Ev I lay pc L (iv b :: iv a :: S) σ Q := by
  intro p l e s m args below meth c E ls H locs X hL hS hW hV
  have hb := ev_okh hS
  have ha := ev_okh (ev_okt hS)
  have hT := ev_okt (ev_okt hS)
  exact lv_icmp_gt (x := Int32.ofInt a) (y := Int32.ofInt b) (rest := S.map (ev_vl E.1)) X.1 X.2.1 hd ht (fun z => kt ((ev_lt hb ha).mp z) p l e s m args below meth c E ls H locs X hL hT hW hV) (fun z => kf (by have := (not_congr (ev_lt hb ha)).mp z; omega) p l e s m args below meth c E ls H locs X hL hT hW hV)
theorem Ev.if_gt {off : Int} {tgt : Nat} (hd : decode I.2.1 pc = .ok (.ifCond .gt off, 3)) (ht : (pc : Int) + off = (tgt : Int)) (kt : 0 < a → Ev I lay tgt L S σ Q) (kf : a ≤ 0 → Ev I lay (pc + 3) L S σ Q) : Ev I lay pc L (iv a :: S) σ Q := by
  intro p l e s m args below meth c E ls H locs X hL hS hW hV
  have ha := ev_okh hS
  have hb : ev_in 0 := ⟨by decide, by decide⟩
  have hT := ev_okt hS
  exact lv_if_gt (x := Int32.ofInt a) (rest := S.map (ev_vl E.1)) X.1 X.2.1 hd ht (fun z => kt ((ev_lt hb ha).mp z) p l e s m args below meth c E ls H locs X hL hT hW hV) (fun z => kf (by have := (not_congr (ev_lt hb ha)).mp z; omega) p l e s m args below meth c E ls H locs X hL hT hW hV)
theorem Ev.icmp_le {off : Int} {tgt : Nat} (hd : decode I.2.1 pc = .ok (.if_icmp .le off, 3)) (ht : (pc : Int) + off = (tgt : Int)) (kt : a ≤ b → Ev I lay tgt L S σ Q) (kf : b < a → Ev I lay (pc + 3) L S σ Q) : Ev I lay pc L (iv b :: iv a :: S) σ Q := by
  intro p l e s m args below meth c E ls H locs X hL hS hW hV
  have hb := ev_okh hS
  have ha := ev_okh (ev_okt hS)
  have hT := ev_okt (ev_okt hS)
  exact lv_icmp_le (x := Int32.ofInt a) (y := Int32.ofInt b) (rest := S.map (ev_vl E.1)) X.1 X.2.1 hd ht (fun z => kt ((ev_le ha hb).mp z) p l e s m args below meth c E ls H locs X hL hT hW hV) (fun z => kf (by have := (not_congr (ev_le ha hb)).mp z; omega) p l e s m args below meth c E ls H locs X hL hT hW hV)
theorem Ev.if_le {off : Int} {tgt : Nat} (hd : decode I.2.1 pc = .ok (.ifCond .le off, 3)) (ht : (pc : Int) + off = (tgt : Int)) (kt : a ≤ 0 → Ev I lay tgt L S σ Q) (kf : 0 < a → Ev I lay (pc + 3) L S σ Q) : Ev I lay pc L (iv a :: S) σ Q := by
  intro p l e s m args below meth c E ls H locs X hL hS hW hV
  have ha := ev_okh hS
  have hb : ev_in 0 := ⟨by decide, by decide⟩
  have hT := ev_okt hS
  exact lv_if_le (x := Int32.ofInt a) (rest := S.map (ev_vl E.1)) X.1 X.2.1 hd ht (fun z => kt ((ev_le ha hb).mp z) p l e s m args below meth c E ls H locs X hL hT hW hV) (fun z => kf (by have := (not_congr (ev_le ha hb)).mp z; omega) p l e s m args below meth c E ls H locs X hL hT hW hV)
theorem Ev.tabIn {dflt lo hi : Int} {offs : Array Int} {len : Nat} {off : Int} {tgt : Nat} (hd : decode I.2.1 pc = .ok (.tableswitch dflt lo hi offs, len)) (h1 : lo ≤ a) (h2 : a ≤ hi) (ho : offs[(a - lo).toNat]? = some off) (ht : (pc : Int) + off = (tgt : Int)) (k : Ev I lay tgt L S σ Q) : Ev I lay pc L (iv a :: S) σ Q := by
  intro p l e s m args below meth c E ls H locs X hL hS hW hV
  have ha := ev_okh hS
  exact lv_tableIn (x := Int32.ofInt a) (rest := S.map (ev_vl E.1)) X.1 X.2.1 hd (by rw [ev_toInt ha]; omega) (by rw [ev_toInt ha]; omega) (by rw [ev_toInt ha]; exact ho) ht (k p l e s m args below meth c E ls H locs X hL (ev_okt hS) hW hV)
theorem Ev.tabOut {dflt lo hi : Int} {offs : Array Int} {len : Nat} {tgt : Nat} (hd : decode I.2.1 pc = .ok (.tableswitch dflt lo hi offs, len)) (h : a < lo ∨ hi < a) (ht : (pc : Int) + dflt = (tgt : Int)) (k : Ev I lay tgt L S σ Q) : Ev I lay pc L (iv a :: S) σ Q := by
  intro p l e s m args below meth c E ls H locs X hL hS hW hV
  have ha := ev_okh hS
  exact lv_tableOut (x := Int32.ofInt a) (rest := S.map (ev_vl E.1)) X.1 X.2.1 hd (by rw [ev_toInt ha]; exact h) ht (k p l e s m args below meth c E ls H locs X hL (ev_okt hS) hW hV)
theorem Ev.lookup {dflt : Int} {ps : Array (Int × Int)} {len : Nat} {off : Int} {tgt : Nat} (hd : decode I.2.1 pc = .ok (.lookupswitch dflt ps, len)) (hp : (ps.toList.zip (ps.toList.drop 1)).all (fun (a, next) => a.1 < next.1) = true) (ho : Op.lookupswitch.offset ps.toList dflt a = off) (ht : (pc : Int) + off = (tgt : Int)) (k : Ev I lay tgt L S σ Q) : Ev I lay pc L (iv a :: S) σ Q := by
  intro p l e s m args below meth c E ls H locs X hL hS hW hV
  have ha := ev_okh hS
  exact lv_lookup (x := Int32.ofInt a) (rest := S.map (ev_vl E.1)) X.1 X.2.1 hd hp (by rw [ev_toInt ha]; exact ho) ht (k p l e s m args below meth c E ls H locs X hL (ev_okt hS) hW hV)
theorem Ev.iret (hd : decode I.2.1 pc = .ok (.ireturn, 1)) {ty : FieldType} (hr : I.2.2.2.1 = some ty) (hn : narrow ty (.int (Int32.ofInt a)) = .int (Int32.ofInt a)) (h : Q a σ) : Ev I lay pc L [iv a] σ Q := by
  intro p l e s m args below meth c E ls H locs X hL hS hW hV
  have hpo : ev_post I lay E Q = va_Qi (fun (r : Int32) (σ' : ev_M) => ∃ i, ev_in i ∧ r = Int32.ofInt i ∧ Q i σ') (fun σ' t => ev_W lay E σ' t t.heap) (ev_A lay E) := by unfold ev_post; rw [if_neg (by rw [hr]; simp)]
  rw [hpo]
  exact W.zret (v := Int32.ofInt a) (ty := ty) X.1 X.2.1 (by rw [X.2.2.2.1]; exact hr) hn (fun t ht hWm => ⟨⟨Int32.ofInt a, σ, rfl, ⟨a, ev_okh hS, rfl, h⟩, hW.moved hV ht hWm⟩, hV.F ht⟩) hV.2.2 hd X.2.2.2.2.1
theorem Ev.vret (hd : decode I.2.1 pc = .ok (.return_, 1)) (hr : I.2.2.2.1 = none) (h : Q 0 σ) : Ev I lay pc L [] σ Q := by
  intro p l e s m args below meth c E ls H locs X hL hS hW hV
  have hpo : ev_post I lay E Q = va_Qv (fun σ' : ev_M => Q 0 σ') (fun σ' t => ev_W lay E σ' t t.heap) (ev_A lay E) := by unfold ev_post; rw [if_pos hr]
  rw [hpo]
  exact W.vret X.1 X.2.1 (by rw [X.2.2.2.1]; exact hr) (fun t ht hWm => ⟨⟨σ, rfl, h, hW.moved hV ht hWm⟩, hV.F ht⟩) hV.2.2 hd X.2.2.2.2.1
theorem Ev.int (hr : I.2.2.2.1 = some .int) (hd : decode I.2.1 pc = .ok (.ireturn, 1)) (h : Q a σ) : Ev I lay pc L [iv a] σ Q := Ev.iret hd hr rfl h
theorem Ev.bool (hr : I.2.2.2.1 = some .boolean) (hd : decode I.2.1 pc = .ok (.ireturn, 1)) (hb : a = 0 ∨ a = 1) (h : Q a σ) : Ev I lay pc L [iv a] σ Q := Ev.iret hd hr (by rcases hb with rfl | rfl <;> rfl) h
end EVR
