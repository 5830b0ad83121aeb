/-! the law's loop -/
theorem lw_good {I' : ev_I} {idx n : Nat} (hl : Cond.methodLink RL idx I'.1 ∈ ev_aw) (hy : ev_Yv I' n) : GoodIn lw_tbl (wsV RL idx I'.1.cls I'.1 (ev_ts I')) := by
  have g : ∀ w ∈ ev_aw, w ∈ lw_tbl ∧ ((w.onTables && w.keeps) = true ∨ ∃ ty, w = .arrayClass ty) := fun w h => ⟨(List.mem_filter.mp h).1, good_of_word (List.mem_filter.mp h).2⟩
  obtain ⟨y1, y2, y3, y4, -⟩ := hy
  intro w hw
  unfold wsV ev_ts at hw
  rcases List.mem_append.mp hw with h | h
  · simp only [List.mem_cons, List.not_mem_nil, or_false] at h
    rcases h with rfl | rfl | rfl | rfl
    · exact g _ hl
    · exact g _ y1
    · exact g _ y2
    · exact g _ y3
  · rcases List.mem_cons.mp h with rfl | h
    · exact g _ y4
    · exact g _ h
def lw_Fx (p : Program) (s : State) (m : MethodId) (c : Code) (b L : Nat) (xs : Nat → Int32) (A : Nat → Prop) (Ex Em : ev_E) : Prop :=
  p.tables.exec = Jvm.exec ∧ c.code = cL_law ∧ c.maxLocals = 4 ∧ s.vm.findClass RL = some m.cls ∧ (∀ w ∈ lw_tbl, w.before #[Value.ref b] s = true) ∧ va_X b L xs s s.heap ∧ b < s.heap.size ∧ ¬ A b ∧ L ≤ 2048 ∧ ∀ a, ev_A layX Ex a → ¬ ev_A layM Em a
def lw_St (A : Nat → Prop) (Ex Em : ev_E) (σ τ : ev_M) (s : State) (H : Heap) (locs : List Loc) : Prop := ev_WA A layX Ex σ s H ∧ ev_WA A layM Em τ s H ∧ va_S A s.heap H locs
def lw_lv (b : Nat) (Ex Em : ev_E) (n : Nat) : List (Nat × Value) := [(3, .int (Int32.ofInt ((4 * n : Nat) : Int))), (2, .ref (Em.1 0)), (1, .ref (Ex.1 0)), (0, .ref b)]
section LL
variable {p : Program} {l : Launch} {e : Env} {s : State} {m : MethodId} {below : List Frame} {meth : Method} {c : Code} {H : Heap} {locs : List Loc} {cells slots : Nat} {Q : State → Prop} {ls : Array Slot} {A : Nat → Prop} {b L : Nat} {xs : Nat → Int32} {Ex Em : ev_E} {σ τ : ev_M} {pc n : Nat}
theorem lw_cx {I' : ev_I} {As : List ev_V} {rest st : List Value} {idx k : Nat} {Q' : Int → ev_M → Prop} {L0 : List (Option ev_V)} {ty : FieldType} (F : lw_Fx p s m c b L xs A Ex Em) (hls : ls.size = 4) (hf : cells ≤ room_1.cells ∧ slots ≤ room_1.slots)
    (hd : decode cL_law pc = .ok (.invokevirtual idx, 3)) (hl : Cond.methodLink RL idx I'.1 ∈ ev_aw) (hy : ev_Yv I' k) (hci : vwCl[4]?.map (fun q => q.1) = some I'.1.cls) (hn : As.length = k) (hLL : As.length + 1 ≤ I'.2.2.1) (hok : ∀ v ∈ As, ev_ok v)
    (hR : I'.2.2.2.2.frames + 1 ≤ room_1.frames ∧ 8 + (I'.2.2.1 + 11) + I'.2.2.2.2.locals ≤ room_1.locals) (hst : (rest.map fun v => v.category).sum ≤ 8) (hr : I'.2.2.2.1 = some ty)
    (hL0 : (rv 0 :: As).map some ++ List.replicate (I'.2.2.1 - (rv 0 :: As).length) none = L0) (h : Ev I' layX 0 L0 [] σ Q') (hS : lw_St A Ex Em σ τ s H locs) (hs : st = (As.map (ev_vl Ex.1)).reverse ++ .ref (Ex.1 0) :: rest)
    (kk : ∀ (r : Int) (σ' : ev_M) (H1 : Heap) (locs1 : List Loc), ev_in r → Q' r σ' → lw_St A Ex Em σ' τ s H1 locs1 → W p l e room_1 s m #[Value.ref b] below meth c H1 locs1 cells slots Q (F0 m (pc + 3) ls (.int (Int32.ofInt r) :: rest))) :
    W p l e room_1 s m #[Value.ref b] below meth c H locs cells slots Q (F0 m pc ls st) := by
  obtain ⟨x1, x2, x3, x4, x5, x6, x7, x8, x9, x10⟩ := F
  obtain ⟨h1, h2, h3⟩ := hS
  subst hs
  refine kc_i (cc := cL_law) (nL := 4) (own := RL) (Ts := lw_tbl) (o := 0) (sz := 10) (ci := 4) x1 x2 x3 x4 x5 hls hd (lw_good hl hy) hy lx_0 hci hn hLL hok hR hst hf hr hL0 h h1 h3 (fun i z H1 locs1 hi hq hW hS hk hz => ?_)
  exact kk i z H1 locs1 hi hq ⟨hW, h2.kept (fun a ha => hk a (h2.lt ha) (fun hx => x10 a hx ha)), hS⟩
theorem lw_cm {I' : ev_I} {As : List ev_V} {rest st : List Value} {idx k : Nat} {Q' : Int → ev_M → Prop} {L0 : List (Option ev_V)} {ty : FieldType} (F : lw_Fx p s m c b L xs A Ex Em) (hls : ls.size = 4) (hf : cells ≤ room_1.cells ∧ slots ≤ room_1.slots)
    (hd : decode cL_law pc = .ok (.invokevirtual idx, 3)) (hl : Cond.methodLink RL idx I'.1 ∈ ev_aw) (hy : ev_Yv I' k) (hci : vwCl[5]?.map (fun q => q.1) = some I'.1.cls) (hn : As.length = k) (hLL : As.length + 1 ≤ I'.2.2.1) (hok : ∀ v ∈ As, ev_ok v)
    (hR : I'.2.2.2.2.frames + 1 ≤ room_1.frames ∧ 8 + (I'.2.2.1 + 11) + I'.2.2.2.2.locals ≤ room_1.locals) (hst : (rest.map fun v => v.category).sum ≤ 8) (hr : I'.2.2.2.1 = some ty)
    (hL0 : (rv 0 :: As).map some ++ List.replicate (I'.2.2.1 - (rv 0 :: As).length) none = L0) (h : Ev I' layM 0 L0 [] τ Q') (hS : lw_St A Ex Em σ τ s H locs) (hs : st = (As.map (ev_vl Em.1)).reverse ++ .ref (Em.1 0) :: rest)
    (kk : ∀ (r : Int) (τ' : ev_M) (H1 : Heap) (locs1 : List Loc), ev_in r → Q' r τ' → lw_St A Ex Em σ τ' s H1 locs1 → W p l e room_1 s m #[Value.ref b] below meth c H1 locs1 cells slots Q (F0 m (pc + 3) ls (.int (Int32.ofInt r) :: rest))) :
    W p l e room_1 s m #[Value.ref b] below meth c H locs cells slots Q (F0 m pc ls st) := by
  obtain ⟨x1, x2, x3, x4, x5, x6, x7, x8, x9, x10⟩ := F
  obtain ⟨h1, h2, h3⟩ := hS
  subst hs
  refine kc_i (cc := cL_law) (nL := 4) (own := RL) (Ts := lw_tbl) (o := 0) (sz := 20) (ci := 5) x1 x2 x3 x4 x5 hls hd (lw_good hl hy) hy lm_0 hci hn hLL hok hR hst hf hr hL0 h h2 h3 (fun i z H1 locs1 hi hq hW hS hk hz => ?_)
  exact kk i z H1 locs1 hi hq ⟨h1.kept (fun a ha => hk a (h1.lt ha) (fun hx => x10 a ha hx)), hW, hS⟩
/-- the k-th number behind the call's own -/
theorem lw_arg {rest : List Value} (k : Nat) {z : Int} (F : lw_Fx p s m c b L xs A Ex Em) (hl : lv_has ls 4 (lw_lv b Ex Em n)) (hS : va_S A s.heap H locs) (hz : z = (k : Int)) (hk4 : k < 4) (hk : 4 * n + 4 ≤ L) (d0 : decode cL_law pc = .ok (.aload_n 0, 1)) (d1 : decode cL_law (pc + 1) = .ok (.iload_n 3, 1)) (d2 : decode cL_law (pc + 1 + 1) = .ok (.iconst z, 1)) (d3 : decode cL_law (pc + 1 + 1 + 1) = .ok (.iadd, 1)) (d4 : decode cL_law (pc + 1 + 1 + 1 + 1) = .ok (.iaload, 1))
    (kk : W p l e room_1 s m #[Value.ref b] below meth c H locs cells slots Q (F0 m (pc + 1 + 1 + 1 + 1 + 1) ls (.int (Int32.ofInt (xs (4 * n + k)).toInt) :: rest))) : W p l e room_1 s m #[Value.ref b] below meth c H locs cells slots Q (F0 m pc ls rest) := by
  obtain ⟨x1, x2, x3, x4, x5, x6, x7, x8, x9, x10⟩ := F
  refine lv_aload_n x1 x2 d0 rfl (lv_at hl 3 rfl) ?_
  refine lv_iload_n (x := Int32.ofInt ((4 * n : Nat) : Int)) x1 x2 d1 rfl (lv_at hl 0 rfl) ?_
  refine lv_iconst (v := Int32.ofInt z) x1 x2 d2 rfl ?_
  refine lv_iadd x1 x2 d3 ?_
  have hz1 : ev_in ((4 * n + k : Nat) : Int) := ⟨by omega, by omega⟩
  have he : Int32.ofInt ((4 * n : Nat) : Int) + Int32.ofInt z = Int32.ofInt ((4 * n + k : Nat) : Int) := by
    rw [hz, ← Int32.ofInt_add]
    congr 1
  rw [he]
  refine va_sld x1 x2 x6 x7 x8 hS (ev_vpin hz1 (by omega) (by omega)) d4 ?_
  rw [ev_clamp hz1 (by omega), Int.toNat_natCast, ← ev_ofInt (xs (4 * n + k))]
  exact kk
/-- write -/
theorem lw_c0 {B : Int} (F : lw_Fx p s m c b L xs A Ex Em) (hl : lv_has ls 4 (lw_lv b Ex Em n)) (hf : cells ≤ room_1.cells ∧ slots ≤ room_1.slots) (hi : 4 * n + 4 ≤ L) (hB0 : 0 ≤ B) (hB : B ≤ 3000000) (hLI : LI B σ τ) (hS : lw_St A Ex Em σ τ s H locs)
    (kk : ∀ (σ1 τ1 : ev_M) (H1 : Heap) (locs1 : List Loc), LI (B + 4000) σ1 τ1 → lw_St A Ex Em σ1 τ1 s H1 locs1 → W p l e room_1 s m #[Value.ref b] below meth c H1 locs1 cells slots Q (F0 m 608 ls [])) : W p l e room_1 s m #[Value.ref b] below meth c H locs cells slots Q (F0 m 128 ls []) := by
  refine lv_aload_n F.1 F.2.1 dL_law_128 rfl (lv_at hl 2 rfl) ?_
  refine lw_arg 1 F hl hS.2.2 rfl (by decide) hi dL_law_129 dL_law_130 dL_law_131 dL_law_132 dL_law_133 ?_
  refine lw_cx (I' := jX4_write) (As := [iv (xs (4 * n + 1)).toInt]) (rest := []) F hl.1 hf dL_law_134 (ev_aw_of 268 (by decide +kernel) rfl : Cond.methodLink RL 13 yX4_write ∈ ev_aw) cyX4_write rfl rfl (Nat.le_of_ble_eq_true rfl) (ev_okc (ev_oki (ev_in_toInt _)) ev_oknil) ⟨Nat.le_of_ble_eq_true rfl, Nat.le_of_ble_eq_true rfl⟩ (Nat.le_of_ble_eq_true rfl) rfl rfl (s_X4_write hLI.1 (by omega)) hS rfl (fun r σ1 H1 locs1 hr hq hS1 => ?_)
  refine lv_aload_n F.1 F.2.1 dL_law_137 rfl (lv_at hl 1 rfl) ?_
  refine lw_arg 1 F hl hS1.2.2 rfl (by decide) hi dL_law_138 dL_law_139 dL_law_140 dL_law_141 dL_law_142 ?_
  refine lw_cm (I' := jX5_write) (As := [iv (xs (4 * n + 1)).toInt]) (rest := [.int (Int32.ofInt r)]) F hl.1 hf dL_law_143 (ev_aw_of 622 (by decide +kernel) rfl : Cond.methodLink RL 17 yX5_write ∈ ev_aw) cyX5_write rfl rfl (Nat.le_of_ble_eq_true rfl) (ev_okc (ev_oki (ev_in_toInt _)) ev_oknil) ⟨Nat.le_of_ble_eq_true rfl, Nat.le_of_ble_eq_true rfl⟩ (Nat.le_of_ble_eq_true rfl) rfl rfl (s_X5_write (hLI.2.1 0).1 (hLI.2.1 0).2) hS1 rfl (fun r1 τ1 H2 locs2 hr1 hq1 hS2 => ?_)
  obtain ⟨e1, hLI1⟩ := LK.of (L_write hLI) hq (p_write_of hq1)
  exact lv_icmp_eq (tgt := 608) F.1 F.2.1 dL_law_146 rfl (fun _ => kk σ1 τ1 H2 locs2 hLI1 hS2) (fun h => absurd (by rw [e1]) h)
/-- wipe -/
theorem lw_c1 {B : Int} (F : lw_Fx p s m c b L xs A Ex Em) (hl : lv_has ls 4 (lw_lv b Ex Em n)) (hf : cells ≤ room_1.cells ∧ slots ≤ room_1.slots) (hi : 4 * n + 4 ≤ L) (hB0 : 0 ≤ B) (hB : B ≤ 3000000) (hLI : LI B σ τ) (hS : lw_St A Ex Em σ τ s H locs)
    (kk : ∀ (σ1 τ1 : ev_M) (H1 : Heap) (locs1 : List Loc), LI (B + 4000) σ1 τ1 → lw_St A Ex Em σ1 τ1 s H1 locs1 → W p l e room_1 s m #[Value.ref b] below meth c H1 locs1 cells slots Q (F0 m 608 ls [])) : W p l e room_1 s m #[Value.ref b] below meth c H locs cells slots Q (F0 m 151 ls []) := by
  refine lv_aload_n F.1 F.2.1 dL_law_151 rfl (lv_at hl 2 rfl) ?_
  refine lw_cx (I' := jX4_wipe) (As := []) (rest := []) F hl.1 hf dL_law_152 (ev_aw_of 276 (by decide +kernel) rfl : Cond.methodLink RL 18 yX4_wipe ∈ ev_aw) cyX4_wipe rfl rfl (Nat.le_of_ble_eq_true rfl) ev_oknil ⟨Nat.le_of_ble_eq_true rfl, Nat.le_of_ble_eq_true rfl⟩ (Nat.le_of_ble_eq_true rfl) rfl rfl (s_X4_wipe) hS rfl (fun r σ1 H1 locs1 hr hq hS1 => ?_)
  refine lv_aload_n F.1 F.2.1 dL_law_155 rfl (lv_at hl 1 rfl) ?_
  refine lw_cm (I' := jX5_wipe) (As := []) (rest := [.int (Int32.ofInt r)]) F hl.1 hf dL_law_156 (ev_aw_of 626 (by decide +kernel) rfl : Cond.methodLink RL 22 yX5_wipe ∈ ev_aw) cyX5_wipe rfl rfl (Nat.le_of_ble_eq_true rfl) ev_oknil ⟨Nat.le_of_ble_eq_true rfl, Nat.le_of_ble_eq_true rfl⟩ (Nat.le_of_ble_eq_true rfl) rfl rfl (s_X5_wipe) hS1 rfl (fun r1 τ1 H2 locs2 hr1 hq1 hS2 => ?_)
  obtain ⟨e1, hLI1⟩ := LK.of (L_wipe hLI) hq (show (r1, τ1) = (τ 0, ev_up τ 0 0) by rw [hq1.1, hq1.2])
  exact lv_icmp_eq (tgt := 608) F.1 F.2.1 dL_law_159 rfl (fun _ => kk σ1 τ1 H2 locs2 hLI1 hS2) (fun h => absurd (by rw [e1]) h)
/-- fault -/
theorem lw_c2 {B : Int} (F : lw_Fx p s m c b L xs A Ex Em) (hl : lv_has ls 4 (lw_lv b Ex Em n)) (hf : cells ≤ room_1.cells ∧ slots ≤ room_1.slots) (hi : 4 * n + 4 ≤ L) (hB0 : 0 ≤ B) (hB : B ≤ 3000000) (hLI : LI B σ τ) (hS : lw_St A Ex Em σ τ s H locs)
    (kk : ∀ (σ1 τ1 : ev_M) (H1 : Heap) (locs1 : List Loc), LI (B + 4000) σ1 τ1 → lw_St A Ex Em σ1 τ1 s H1 locs1 → W p l e room_1 s m #[Value.ref b] below meth c H1 locs1 cells slots Q (F0 m 608 ls [])) : W p l e room_1 s m #[Value.ref b] below meth c H locs cells slots Q (F0 m 164 ls []) := by
  refine lv_aload_n F.1 F.2.1 dL_law_164 rfl (lv_at hl 2 rfl) ?_
  refine lw_cx (I' := jX4_fault) (As := []) (rest := []) F hl.1 hf dL_law_165 (ev_aw_of 284 (by decide +kernel) rfl : Cond.methodLink RL 23 yX4_fault ∈ ev_aw) cyX4_fault rfl rfl (Nat.le_of_ble_eq_true rfl) ev_oknil ⟨Nat.le_of_ble_eq_true rfl, Nat.le_of_ble_eq_true rfl⟩ (Nat.le_of_ble_eq_true rfl) rfl rfl (s_X4_fault hLI.1) hS rfl (fun r σ1 H1 locs1 hr hq hS1 => ?_)
  refine lv_aload_n F.1 F.2.1 dL_law_168 rfl (lv_at hl 1 rfl) ?_
  refine lw_cm (I' := jX5_fault) (As := []) (rest := [.int (Int32.ofInt r)]) F hl.1 hf dL_law_169 (ev_aw_of 630 (by decide +kernel) rfl : Cond.methodLink RL 26 yX5_fault ∈ ev_aw) cyX5_fault rfl rfl (Nat.le_of_ble_eq_true rfl) ev_oknil ⟨Nat.le_of_ble_eq_true rfl, Nat.le_of_ble_eq_true rfl⟩ (Nat.le_of_ble_eq_true rfl) rfl rfl (s_X5_fault hLI.2.1) hS1 rfl (fun r1 τ1 H2 locs2 hr1 hq1 hS2 => ?_)
  obtain ⟨e1, hLI1⟩ := L_fault hLI hq hq1
  exact lv_icmp_eq (tgt := 608) F.1 F.2.1 dL_law_172 rfl (fun _ => kk σ1 τ1 H2 locs2 hLI1 hS2) (fun h => absurd (by rw [e1]) h)
/-- lay -/
theorem lw_c3 {B : Int} (F : lw_Fx p s m c b L xs A Ex Em) (hl : lv_has ls 4 (lw_lv b Ex Em n)) (hf : cells ≤ room_1.cells ∧ slots ≤ room_1.slots) (hi : 4 * n + 4 ≤ L) (hB0 : 0 ≤ B) (hB : B ≤ 3000000) (hLI : LI B σ τ) (hS : lw_St A Ex Em σ τ s H locs)
    (kk : ∀ (σ1 τ1 : ev_M) (H1 : Heap) (locs1 : List Loc), LI (B + 4000) σ1 τ1 → lw_St A Ex Em σ1 τ1 s H1 locs1 → W p l e room_1 s m #[Value.ref b] below meth c H1 locs1 cells slots Q (F0 m 608 ls [])) : W p l e room_1 s m #[Value.ref b] below meth c H locs cells slots Q (F0 m 177 ls []) := by
  refine lv_aload_n F.1 F.2.1 dL_law_177 rfl (lv_at hl 2 rfl) ?_
  refine lw_cx (I' := jX4_lay) (As := []) (rest := []) F hl.1 hf dL_law_178 (ev_aw_of 320 (by decide +kernel) rfl : Cond.methodLink RL 27 yX4_lay ∈ ev_aw) cyX4_lay rfl rfl (Nat.le_of_ble_eq_true rfl) ev_oknil ⟨Nat.le_of_ble_eq_true rfl, Nat.le_of_ble_eq_true rfl⟩ (Nat.le_of_ble_eq_true rfl) rfl rfl (s_X4_lay hLI.1) hS rfl (fun r σ1 H1 locs1 hr hq hS1 => ?_)
  refine lv_aload_n F.1 F.2.1 dL_law_181 rfl (lv_at hl 1 rfl) ?_
  refine lw_cm (I' := jX5_lay) (As := []) (rest := [.int (Int32.ofInt r)]) F hl.1 hf dL_law_182 (ev_aw_of 656 (by decide +kernel) rfl : Cond.methodLink RL 30 yX5_lay ∈ ev_aw) cyX5_lay rfl rfl (Nat.le_of_ble_eq_true rfl) ev_oknil ⟨Nat.le_of_ble_eq_true rfl, Nat.le_of_ble_eq_true rfl⟩ (Nat.le_of_ble_eq_true rfl) rfl rfl (s_X5_lay hLI.2.1) hS1 rfl (fun r1 τ1 H2 locs2 hr1 hq1 hS2 => ?_)
  obtain ⟨e1, hLI1⟩ := L_lay hLI hB0 hq hq1
  exact lv_icmp_eq (tgt := 608) F.1 F.2.1 dL_law_185 rfl (fun _ => kk σ1 τ1 H2 locs2 hLI1 hS2) (fun h => absurd (by rw [e1]) h)
/-- command -/
theorem lw_c4 {B : Int} (F : lw_Fx p s m c b L xs A Ex Em) (hl : lv_has ls 4 (lw_lv b Ex Em n)) (hf : cells ≤ room_1.cells ∧ slots ≤ room_1.slots) (hi : 4 * n + 4 ≤ L) (hB0 : 0 ≤ B) (hB : B ≤ 3000000) (hLI : LI B σ τ) (hS : lw_St A Ex Em σ τ s H locs)
    (kk : ∀ (σ1 τ1 : ev_M) (H1 : Heap) (locs1 : List Loc), LI (B + 4000) σ1 τ1 → lw_St A Ex Em σ1 τ1 s H1 locs1 → W p l e room_1 s m #[Value.ref b] below meth c H1 locs1 cells slots Q (F0 m 608 ls [])) : W p l e room_1 s m #[Value.ref b] below meth c H locs cells slots Q (F0 m 190 ls []) := by
  refine lv_aload_n F.1 F.2.1 dL_law_190 rfl (lv_at hl 2 rfl) ?_
  refine lw_arg 1 F hl hS.2.2 rfl (by decide) hi dL_law_191 dL_law_192 dL_law_193 dL_law_194 dL_law_195 ?_
  refine lw_cx (I' := jX4_command) (As := [iv (xs (4 * n + 1)).toInt]) (rest := []) F hl.1 hf dL_law_196 (ev_aw_of 328 (by decide +kernel) rfl : Cond.methodLink RL 31 yX4_command ∈ ev_aw) cyX4_command rfl rfl (Nat.le_of_ble_eq_true rfl) (ev_okc (ev_oki (ev_in_toInt _)) ev_oknil) ⟨Nat.le_of_ble_eq_true rfl, Nat.le_of_ble_eq_true rfl⟩ (Nat.le_of_ble_eq_true rfl) rfl rfl (s_X4_command hLI.1 (by omega)) hS rfl (fun r σ1 H1 locs1 hr hq hS1 => ?_)
  refine lv_aload_n F.1 F.2.1 dL_law_199 rfl (lv_at hl 1 rfl) ?_
  refine lw_arg 1 F hl hS1.2.2 rfl (by decide) hi dL_law_200 dL_law_201 dL_law_202 dL_law_203 dL_law_204 ?_
  refine lw_cm (I' := jX5_command) (As := [iv (xs (4 * n + 1)).toInt]) (rest := [.int (Int32.ofInt r)]) F hl.1 hf dL_law_205 (ev_aw_of 676 (by decide +kernel) rfl : Cond.methodLink RL 34 yX5_command ∈ ev_aw) cyX5_command rfl rfl (Nat.le_of_ble_eq_true rfl) (ev_okc (ev_oki (ev_in_toInt _)) ev_oknil) ⟨Nat.le_of_ble_eq_true rfl, Nat.le_of_ble_eq_true rfl⟩ (Nat.le_of_ble_eq_true rfl) rfl rfl (s_X5_command hLI.2.1 (by omega)) hS1 rfl (fun r1 τ1 H2 locs2 hr1 hq1 hS2 => ?_)
  obtain ⟨e1, hLI1⟩ := LK.of (L_command hLI (by omega)) hq hq1
  exact lv_icmp_eq (tgt := 608) F.1 F.2.1 dL_law_208 rfl (fun _ => kk σ1 τ1 H2 locs2 hLI1 hS2) (fun h => absurd (by rw [e1]) h)
/-- give -/
theorem lw_c5 {B : Int} (F : lw_Fx p s m c b L xs A Ex Em) (hl : lv_has ls 4 (lw_lv b Ex Em n)) (hf : cells ≤ room_1.cells ∧ slots ≤ room_1.slots) (hi : 4 * n + 4 ≤ L) (hB0 : 0 ≤ B) (hB : B ≤ 3000000) (hLI : LI B σ τ) (hS : lw_St A Ex Em σ τ s H locs)
    (kk : ∀ (σ1 τ1 : ev_M) (H1 : Heap) (locs1 : List Loc), LI (B + 4000) σ1 τ1 → lw_St A Ex Em σ1 τ1 s H1 locs1 → W p l e room_1 s m #[Value.ref b] below meth c H1 locs1 cells slots Q (F0 m 608 ls [])) : W p l e room_1 s m #[Value.ref b] below meth c H locs cells slots Q (F0 m 213 ls []) := by
  refine lv_aload_n F.1 F.2.1 dL_law_213 rfl (lv_at hl 2 rfl) ?_
  refine lw_cx (I' := jX4_give) (As := []) (rest := []) F hl.1 hf dL_law_214 (ev_aw_of 428 (by decide +kernel) rfl : Cond.methodLink RL 35 yX4_give ∈ ev_aw) cyX4_give rfl rfl (Nat.le_of_ble_eq_true rfl) ev_oknil ⟨Nat.le_of_ble_eq_true rfl, Nat.le_of_ble_eq_true rfl⟩ (Nat.le_of_ble_eq_true rfl) rfl rfl (s_X4_give hLI.1 (by omega)) hS rfl (fun r σ1 H1 locs1 hr hq hS1 => ?_)
  refine lv_aload_n F.1 F.2.1 dL_law_217 rfl (lv_at hl 1 rfl) ?_
  refine lw_cm (I' := jX5_give) (As := []) (rest := [.int (Int32.ofInt r)]) F hl.1 hf dL_law_218 (ev_aw_of 740 (by decide +kernel) rfl : Cond.methodLink RL 38 yX5_give ∈ ev_aw) cyX5_give rfl rfl (Nat.le_of_ble_eq_true rfl) ev_oknil ⟨Nat.le_of_ble_eq_true rfl, Nat.le_of_ble_eq_true rfl⟩ (Nat.le_of_ble_eq_true rfl) rfl rfl (s_X5_give hLI.2.1 (by omega)) hS1 rfl (fun r1 τ1 H2 locs2 hr1 hq1 hS2 => ?_)
  obtain ⟨e1, hLI1⟩ := LK.of (L_give hLI (by omega)) hq hq1
  exact lv_icmp_eq (tgt := 608) F.1 F.2.1 dL_law_221 rfl (fun _ => kk σ1 τ1 H2 locs2 hLI1 hS2) (fun h => absurd (by rw [e1]) h)
/-- tick -/
theorem lw_c6 {B : Int} (F : lw_Fx p s m c b L xs A Ex Em) (hl : lv_has ls 4 (lw_lv b Ex Em n)) (hf : cells ≤ room_1.cells ∧ slots ≤ room_1.slots) (hi : 4 * n + 4 ≤ L) (hB0 : 0 ≤ B) (hB : B ≤ 3000000) (hLI : LI B σ τ) (hS : lw_St A Ex Em σ τ s H locs)
    (kk : ∀ (σ1 τ1 : ev_M) (H1 : Heap) (locs1 : List Loc), LI (B + 4000) σ1 τ1 → lw_St A Ex Em σ1 τ1 s H1 locs1 → W p l e room_1 s m #[Value.ref b] below meth c H1 locs1 cells slots Q (F0 m 608 ls [])) : W p l e room_1 s m #[Value.ref b] below meth c H locs cells slots Q (F0 m 226 ls []) := by
  refine lv_aload_n F.1 F.2.1 dL_law_226 rfl (lv_at hl 2 rfl) ?_
  refine lw_arg 1 F hl hS.2.2 rfl (by decide) hi dL_law_227 dL_law_228 dL_law_229 dL_law_230 dL_law_231 ?_
  refine lw_cx (I' := jX4_tick) (As := [iv (xs (4 * n + 1)).toInt]) (rest := []) F hl.1 hf dL_law_232 (ev_aw_of 453 (by decide +kernel) rfl : Cond.methodLink RL 39 yX4_tick ∈ ev_aw) cyX4_tick rfl rfl (Nat.le_of_ble_eq_true rfl) (ev_okc (ev_oki (ev_in_toInt _)) ev_oknil) ⟨Nat.le_of_ble_eq_true rfl, Nat.le_of_ble_eq_true rfl⟩ (Nat.le_of_ble_eq_true rfl) rfl rfl (s_X4_tick hLI.1 (by omega)) hS rfl (fun r σ1 H1 locs1 hr hq hS1 => ?_)
  refine lv_aload_n F.1 F.2.1 dL_law_235 rfl (lv_at hl 1 rfl) ?_
  refine lw_arg 1 F hl hS1.2.2 rfl (by decide) hi dL_law_236 dL_law_237 dL_law_238 dL_law_239 dL_law_240 ?_
  refine lw_cm (I' := jX5_tick) (As := [iv (xs (4 * n + 1)).toInt]) (rest := [.int (Int32.ofInt r)]) F hl.1 hf dL_law_241 (ev_aw_of 660 (by decide +kernel) rfl : Cond.methodLink RL 42 yX5_tick ∈ ev_aw) cyX5_tick rfl rfl (Nat.le_of_ble_eq_true rfl) (ev_okc (ev_oki (ev_in_toInt _)) ev_oknil) ⟨Nat.le_of_ble_eq_true rfl, Nat.le_of_ble_eq_true rfl⟩ (Nat.le_of_ble_eq_true rfl) rfl rfl (s_X5_tick hLI.2.1 (by omega)) hS1 rfl (fun r1 τ1 H2 locs2 hr1 hq1 hS2 => ?_)
  obtain ⟨e1, hLI1⟩ := LK.of (L_tick hLI) hq hq1
  exact lv_icmp_eq (tgt := 608) F.1 F.2.1 dL_law_244 rfl (fun _ => kk σ1 τ1 H2 locs2 hLI1 hS2) (fun h => absurd (by rw [e1]) h)
/-- poll -/
theorem lw_c7 {B : Int} (F : lw_Fx p s m c b L xs A Ex Em) (hl : lv_has ls 4 (lw_lv b Ex Em n)) (hf : cells ≤ room_1.cells ∧ slots ≤ room_1.slots) (hi : 4 * n + 4 ≤ L) (hB0 : 0 ≤ B) (hB : B ≤ 3000000) (hLI : LI B σ τ) (hS : lw_St A Ex Em σ τ s H locs)
    (kk : ∀ (σ1 τ1 : ev_M) (H1 : Heap) (locs1 : List Loc), LI (B + 4000) σ1 τ1 → lw_St A Ex Em σ1 τ1 s H1 locs1 → W p l e room_1 s m #[Value.ref b] below meth c H1 locs1 cells slots Q (F0 m 608 ls [])) : W p l e room_1 s m #[Value.ref b] below meth c H locs cells slots Q (F0 m 249 ls []) := by
  refine lv_aload_n F.1 F.2.1 dL_law_249 rfl (lv_at hl 2 rfl) ?_
  refine lw_cx (I' := jX4_poll) (As := []) (rest := []) F hl.1 hf dL_law_250 (ev_aw_of 457 (by decide +kernel) rfl : Cond.methodLink RL 43 yX4_poll ∈ ev_aw) cyX4_poll rfl rfl (Nat.le_of_ble_eq_true rfl) ev_oknil ⟨Nat.le_of_ble_eq_true rfl, Nat.le_of_ble_eq_true rfl⟩ (Nat.le_of_ble_eq_true rfl) rfl rfl (s_X4_poll hLI.1 (by omega)) hS rfl (fun r σ1 H1 locs1 hr hq hS1 => ?_)
  refine lv_aload_n F.1 F.2.1 dL_law_253 rfl (lv_at hl 1 rfl) ?_
  refine lw_cm (I' := jX5_poll) (As := []) (rest := [.int (Int32.ofInt r)]) F hl.1 hf dL_law_254 (ev_aw_of 756 (by decide +kernel) rfl : Cond.methodLink RL 46 yX5_poll ∈ ev_aw) cyX5_poll rfl rfl (Nat.le_of_ble_eq_true rfl) ev_oknil ⟨Nat.le_of_ble_eq_true rfl, Nat.le_of_ble_eq_true rfl⟩ (Nat.le_of_ble_eq_true rfl) rfl rfl (s_X5_poll hLI.2.1 (by omega)) hS1 rfl (fun r1 τ1 H2 locs2 hr1 hq1 hS2 => ?_)
  obtain ⟨e1, hLI1⟩ := LK.of (L_poll hLI (by omega)) hq hq1
  exact lv_icmp_eq (tgt := 608) F.1 F.2.1 dL_law_257 rfl (fun _ => kk σ1 τ1 H2 locs2 hLI1 hS2) (fun h => absurd (by rw [e1]) h)
/-- parallel -/
theorem lw_c8 {B : Int} (F : lw_Fx p s m c b L xs A Ex Em) (hl : lv_has ls 4 (lw_lv b Ex Em n)) (hf : cells ≤ room_1.cells ∧ slots ≤ room_1.slots) (hi : 4 * n + 4 ≤ L) (hB0 : 0 ≤ B) (hB : B ≤ 3000000) (hLI : LI B σ τ) (hS : lw_St A Ex Em σ τ s H locs)
    (kk : ∀ (σ1 τ1 : ev_M) (H1 : Heap) (locs1 : List Loc), LI (B + 4000) σ1 τ1 → lw_St A Ex Em σ1 τ1 s H1 locs1 → W p l e room_1 s m #[Value.ref b] below meth c H1 locs1 cells slots Q (F0 m 608 ls [])) : W p l e room_1 s m #[Value.ref b] below meth c H locs cells slots Q (F0 m 262 ls []) := by
  refine lv_aload_n F.1 F.2.1 dL_law_262 rfl (lv_at hl 2 rfl) ?_
  refine lw_cx (I' := jX4_parallel) (As := []) (rest := []) F hl.1 hf dL_law_263 (ev_aw_of 465 (by decide +kernel) rfl : Cond.methodLink RL 47 yX4_parallel ∈ ev_aw) cyX4_parallel rfl rfl (Nat.le_of_ble_eq_true rfl) ev_oknil ⟨Nat.le_of_ble_eq_true rfl, Nat.le_of_ble_eq_true rfl⟩ (Nat.le_of_ble_eq_true rfl) rfl rfl (s_X4_parallel hLI.1 (by omega)) hS rfl (fun r σ1 H1 locs1 hr hq hS1 => ?_)
  refine lv_aload_n F.1 F.2.1 dL_law_266 rfl (lv_at hl 1 rfl) ?_
  refine lw_cm (I' := jX5_parallel) (As := []) (rest := [.int (Int32.ofInt r)]) F hl.1 hf dL_law_267 (ev_aw_of 764 (by decide +kernel) rfl : Cond.methodLink RL 50 yX5_parallel ∈ ev_aw) cyX5_parallel rfl rfl (Nat.le_of_ble_eq_true rfl) ev_oknil ⟨Nat.le_of_ble_eq_true rfl, Nat.le_of_ble_eq_true rfl⟩ (Nat.le_of_ble_eq_true rfl) rfl rfl (s_X5_parallel hLI.2.1 (by omega)) hS1 rfl (fun r1 τ1 H2 locs2 hr1 hq1 hS2 => ?_)
  obtain ⟨e1, hLI1⟩ := LK.of (L_parallel hLI) hq hq1
  exact lv_icmp_eq (tgt := 608) F.1 F.2.1 dL_law_270 rfl (fun _ => kk σ1 τ1 H2 locs2 hLI1 hS2) (fun h => absurd (by rw [e1]) h)
/-- takeBack -/
theorem lw_c9 {B : Int} (F : lw_Fx p s m c b L xs A Ex Em) (hl : lv_has ls 4 (lw_lv b Ex Em n)) (hf : cells ≤ room_1.cells ∧ slots ≤ room_1.slots) (hi : 4 * n + 4 ≤ L) (hB0 : 0 ≤ B) (hB : B ≤ 3000000) (hLI : LI B σ τ) (hS : lw_St A Ex Em σ τ s H locs)
    (kk : ∀ (σ1 τ1 : ev_M) (H1 : Heap) (locs1 : List Loc), LI (B + 4000) σ1 τ1 → lw_St A Ex Em σ1 τ1 s H1 locs1 → W p l e room_1 s m #[Value.ref b] below meth c H1 locs1 cells slots Q (F0 m 608 ls [])) : W p l e room_1 s m #[Value.ref b] below meth c H locs cells slots Q (F0 m 275 ls []) := by
  refine lv_aload_n F.1 F.2.1 dL_law_275 rfl (lv_at hl 2 rfl) ?_
  refine lw_cx (I' := jX4_takeBack) (As := []) (rest := []) F hl.1 hf dL_law_276 (ev_aw_of 476 (by decide +kernel) rfl : Cond.methodLink RL 51 yX4_takeBack ∈ ev_aw) cyX4_takeBack rfl rfl (Nat.le_of_ble_eq_true rfl) ev_oknil ⟨Nat.le_of_ble_eq_true rfl, Nat.le_of_ble_eq_true rfl⟩ (Nat.le_of_ble_eq_true rfl) rfl rfl (s_X4_takeBack hLI.1) hS rfl (fun r σ1 H1 locs1 hr hq hS1 => ?_)
  refine lv_aload_n F.1 F.2.1 dL_law_279 rfl (lv_at hl 1 rfl) ?_
  refine lw_cm (I' := jX5_takeBack) (As := []) (rest := [.int (Int32.ofInt r)]) F hl.1 hf dL_law_280 (ev_aw_of 768 (by decide +kernel) rfl : Cond.methodLink RL 54 yX5_takeBack ∈ ev_aw) cyX5_takeBack rfl rfl (Nat.le_of_ble_eq_true rfl) ev_oknil ⟨Nat.le_of_ble_eq_true rfl, Nat.le_of_ble_eq_true rfl⟩ (Nat.le_of_ble_eq_true rfl) rfl rfl (s_X5_takeBack hLI.2.1) hS1 rfl (fun r1 τ1 H2 locs2 hr1 hq1 hS2 => ?_)
  obtain ⟨e1, hLI1⟩ := LK.of (L_takeBack hLI) hq hq1
  exact lv_icmp_eq (tgt := 608) F.1 F.2.1 dL_law_283 rfl (fun _ => kk σ1 τ1 H2 locs2 hLI1 hS2) (fun h => absurd (by rw [e1]) h)
/-- put -/
theorem lw_c10 {B : Int} (F : lw_Fx p s m c b L xs A Ex Em) (hl : lv_has ls 4 (lw_lv b Ex Em n)) (hf : cells ≤ room_1.cells ∧ slots ≤ room_1.slots) (hi : 4 * n + 4 ≤ L) (hB0 : 0 ≤ B) (hB : B ≤ 3000000) (hLI : LI B σ τ) (hS : lw_St A Ex Em σ τ s H locs)
    (kk : ∀ (σ1 τ1 : ev_M) (H1 : Heap) (locs1 : List Loc), LI (B + 4000) σ1 τ1 → lw_St A Ex Em σ1 τ1 s H1 locs1 → W p l e room_1 s m #[Value.ref b] below meth c H1 locs1 cells slots Q (F0 m 608 ls [])) : W p l e room_1 s m #[Value.ref b] below meth c H locs cells slots Q (F0 m 288 ls []) := by
  refine lv_aload_n F.1 F.2.1 dL_law_288 rfl (lv_at hl 2 rfl) ?_
  refine lw_arg 1 F hl hS.2.2 rfl (by decide) hi dL_law_289 dL_law_290 dL_law_291 dL_law_292 dL_law_293 ?_
  refine lw_arg 2 F hl hS.2.2 rfl (by decide) hi dL_law_294 dL_law_295 dL_law_296 dL_law_297 dL_law_298 ?_
  refine lw_cx (I' := jX4_put) (As := [iv (xs (4 * n + 1)).toInt, iv (xs (4 * n + 2)).toInt]) (rest := []) F hl.1 hf dL_law_299 (ev_aw_of 480 (by decide +kernel) rfl : Cond.methodLink RL 55 yX4_put ∈ ev_aw) cyX4_put rfl rfl (Nat.le_of_ble_eq_true rfl) (ev_okc (ev_oki (ev_in_toInt _)) (ev_okc (ev_oki (ev_in_toInt _)) ev_oknil)) ⟨Nat.le_of_ble_eq_true rfl, Nat.le_of_ble_eq_true rfl⟩ (Nat.le_of_ble_eq_true rfl) rfl rfl (s_X4_put hLI.1 (by omega)) hS rfl (fun r σ1 H1 locs1 hr hq hS1 => ?_)
  refine lv_aload_n F.1 F.2.1 dL_law_302 rfl (lv_at hl 1 rfl) ?_
  refine lw_arg 1 F hl hS1.2.2 rfl (by decide) hi dL_law_303 dL_law_304 dL_law_305 dL_law_306 dL_law_307 ?_
  refine lw_arg 2 F hl hS1.2.2 rfl (by decide) hi dL_law_308 dL_law_309 dL_law_310 dL_law_311 dL_law_312 ?_
  refine lw_cm (I' := jX5_put) (As := [iv (xs (4 * n + 1)).toInt, iv (xs (4 * n + 2)).toInt]) (rest := [.int (Int32.ofInt r)]) F hl.1 hf dL_law_313 (ev_aw_of 772 (by decide +kernel) rfl : Cond.methodLink RL 59 yX5_put ∈ ev_aw) cyX5_put rfl rfl (Nat.le_of_ble_eq_true rfl) (ev_okc (ev_oki (ev_in_toInt _)) (ev_okc (ev_oki (ev_in_toInt _)) ev_oknil)) ⟨Nat.le_of_ble_eq_true rfl, Nat.le_of_ble_eq_true rfl⟩ (Nat.le_of_ble_eq_true rfl) rfl rfl (s_X5_put hLI.2.1 (by omega)) hS1 rfl (fun r1 τ1 H2 locs2 hr1 hq1 hS2 => ?_)
  obtain ⟨e1, hLI1⟩ := LK.of (L_put hLI) hq hq1
  exact lv_icmp_eq (tgt := 608) F.1 F.2.1 dL_law_316 rfl (fun _ => kk σ1 τ1 H2 locs2 hLI1 hS2) (fun h => absurd (by rw [e1]) h)
/-- take -/
theorem lw_c11 {B : Int} (F : lw_Fx p s m c b L xs A Ex Em) (hl : lv_has ls 4 (lw_lv b Ex Em n)) (hf : cells ≤ room_1.cells ∧ slots ≤ room_1.slots) (hi : 4 * n + 4 ≤ L) (hB0 : 0 ≤ B) (hB : B ≤ 3000000) (hLI : LI B σ τ) (hS : lw_St A Ex Em σ τ s H locs)
    (kk : ∀ (σ1 τ1 : ev_M) (H1 : Heap) (locs1 : List Loc), LI (B + 4000) σ1 τ1 → lw_St A Ex Em σ1 τ1 s H1 locs1 → W p l e room_1 s m #[Value.ref b] below meth c H1 locs1 cells slots Q (F0 m 608 ls [])) : W p l e room_1 s m #[Value.ref b] below meth c H locs cells slots Q (F0 m 321 ls []) := by
  refine lv_aload_n F.1 F.2.1 dL_law_321 rfl (lv_at hl 2 rfl) ?_
  refine lw_arg 1 F hl hS.2.2 rfl (by decide) hi dL_law_322 dL_law_323 dL_law_324 dL_law_325 dL_law_326 ?_
  refine lw_cx (I' := jX4_take) (As := [iv (xs (4 * n + 1)).toInt]) (rest := []) F hl.1 hf dL_law_327 (ev_aw_of 484 (by decide +kernel) rfl : Cond.methodLink RL 60 yX4_take ∈ ev_aw) cyX4_take rfl rfl (Nat.le_of_ble_eq_true rfl) (ev_okc (ev_oki (ev_in_toInt _)) ev_oknil) ⟨Nat.le_of_ble_eq_true rfl, Nat.le_of_ble_eq_true rfl⟩ (Nat.le_of_ble_eq_true rfl) rfl rfl (s_X4_take hLI.1 (by omega)) hS rfl (fun r σ1 H1 locs1 hr hq hS1 => ?_)
  refine lv_aload_n F.1 F.2.1 dL_law_330 rfl (lv_at hl 1 rfl) ?_
  refine lw_arg 1 F hl hS1.2.2 rfl (by decide) hi dL_law_331 dL_law_332 dL_law_333 dL_law_334 dL_law_335 ?_
  refine lw_cm (I' := jX5_take) (As := [iv (xs (4 * n + 1)).toInt]) (rest := [.int (Int32.ofInt r)]) F hl.1 hf dL_law_336 (ev_aw_of 780 (by decide +kernel) rfl : Cond.methodLink RL 63 yX5_take ∈ ev_aw) cyX5_take rfl rfl (Nat.le_of_ble_eq_true rfl) (ev_okc (ev_oki (ev_in_toInt _)) ev_oknil) ⟨Nat.le_of_ble_eq_true rfl, Nat.le_of_ble_eq_true rfl⟩ (Nat.le_of_ble_eq_true rfl) rfl rfl (s_X5_take hLI.2.1) hS1 rfl (fun r1 τ1 H2 locs2 hr1 hq1 hS2 => ?_)
  obtain ⟨e1, hLI1⟩ := LK.of (L_take hLI) hq hq1
  exact lv_icmp_eq (tgt := 608) F.1 F.2.1 dL_law_339 rfl (fun _ => kk σ1 τ1 H2 locs2 hLI1 hS2) (fun h => absurd (by rw [e1]) h)
/-- ask -/
theorem lw_c12 {B : Int} (F : lw_Fx p s m c b L xs A Ex Em) (hl : lv_has ls 4 (lw_lv b Ex Em n)) (hf : cells ≤ room_1.cells ∧ slots ≤ room_1.slots) (hi : 4 * n + 4 ≤ L) (hB0 : 0 ≤ B) (hB : B ≤ 3000000) (hLI : LI B σ τ) (hS : lw_St A Ex Em σ τ s H locs)
    (kk : ∀ (σ1 τ1 : ev_M) (H1 : Heap) (locs1 : List Loc), LI (B + 4000) σ1 τ1 → lw_St A Ex Em σ1 τ1 s H1 locs1 → W p l e room_1 s m #[Value.ref b] below meth c H1 locs1 cells slots Q (F0 m 608 ls [])) : W p l e room_1 s m #[Value.ref b] below meth c H locs cells slots Q (F0 m 344 ls []) := by
  refine lv_aload_n F.1 F.2.1 dL_law_344 rfl (lv_at hl 2 rfl) ?_
  refine lw_arg 1 F hl hS.2.2 rfl (by decide) hi dL_law_345 dL_law_346 dL_law_347 dL_law_348 dL_law_349 ?_
  refine lw_arg 2 F hl hS.2.2 rfl (by decide) hi dL_law_350 dL_law_351 dL_law_352 dL_law_353 dL_law_354 ?_
  refine lw_arg 3 F hl hS.2.2 rfl (by decide) hi dL_law_355 dL_law_356 dL_law_357 dL_law_358 dL_law_359 ?_
  refine lw_cx (I' := jX4_ask) (As := [iv (xs (4 * n + 1)).toInt, iv (xs (4 * n + 2)).toInt, iv (xs (4 * n + 3)).toInt]) (rest := []) F hl.1 hf dL_law_360 (ev_aw_of 488 (by decide +kernel) rfl : Cond.methodLink RL 64 yX4_ask ∈ ev_aw) cyX4_ask rfl rfl (Nat.le_of_ble_eq_true rfl) (ev_okc (ev_oki (ev_in_toInt _)) (ev_okc (ev_oki (ev_in_toInt _)) (ev_okc (ev_oki (ev_in_toInt _)) ev_oknil))) ⟨Nat.le_of_ble_eq_true rfl, Nat.le_of_ble_eq_true rfl⟩ (Nat.le_of_ble_eq_true rfl) rfl rfl (s_X4_ask hLI.1 (by omega)) hS rfl (fun r σ1 H1 locs1 hr hq hS1 => ?_)
  refine lv_aload_n F.1 F.2.1 dL_law_363 rfl (lv_at hl 1 rfl) ?_
  refine lw_arg 1 F hl hS1.2.2 rfl (by decide) hi dL_law_364 dL_law_365 dL_law_366 dL_law_367 dL_law_368 ?_
  refine lw_arg 2 F hl hS1.2.2 rfl (by decide) hi dL_law_369 dL_law_370 dL_law_371 dL_law_372 dL_law_373 ?_
  refine lw_arg 3 F hl hS1.2.2 rfl (by decide) hi dL_law_374 dL_law_375 dL_law_376 dL_law_377 dL_law_378 ?_
  refine lw_cm (I' := jX5_ask) (As := [iv (xs (4 * n + 1)).toInt, iv (xs (4 * n + 2)).toInt, iv (xs (4 * n + 3)).toInt]) (rest := [.int (Int32.ofInt r)]) F hl.1 hf dL_law_379 (ev_aw_of 784 (by decide +kernel) rfl : Cond.methodLink RL 68 yX5_ask ∈ ev_aw) cyX5_ask rfl rfl (Nat.le_of_ble_eq_true rfl) (ev_okc (ev_oki (ev_in_toInt _)) (ev_okc (ev_oki (ev_in_toInt _)) (ev_okc (ev_oki (ev_in_toInt _)) ev_oknil))) ⟨Nat.le_of_ble_eq_true rfl, Nat.le_of_ble_eq_true rfl⟩ (Nat.le_of_ble_eq_true rfl) rfl rfl (s_X5_ask hLI.2.1 (by omega)) hS1 rfl (fun r1 τ1 H2 locs2 hr1 hq1 hS2 => ?_)
  obtain ⟨e1, hLI1⟩ := LK.of (L_ask hLI) hq hq1
  exact lv_icmp_eq (tgt := 608) F.1 F.2.1 dL_law_382 rfl (fun _ => kk σ1 τ1 H2 locs2 hLI1 hS2) (fun h => absurd (by rw [e1]) h)
/-- front -/
theorem lw_c13 {B : Int} (F : lw_Fx p s m c b L xs A Ex Em) (hl : lv_has ls 4 (lw_lv b Ex Em n)) (hf : cells ≤ room_1.cells ∧ slots ≤ room_1.slots) (hi : 4 * n + 4 ≤ L) (hB0 : 0 ≤ B) (hB : B ≤ 3000000) (hLI : LI B σ τ) (hS : lw_St A Ex Em σ τ s H locs)
    (kk : ∀ (σ1 τ1 : ev_M) (H1 : Heap) (locs1 : List Loc), LI (B + 4000) σ1 τ1 → lw_St A Ex Em σ1 τ1 s H1 locs1 → W p l e room_1 s m #[Value.ref b] below meth c H1 locs1 cells slots Q (F0 m 608 ls [])) : W p l e room_1 s m #[Value.ref b] below meth c H locs cells slots Q (F0 m 387 ls []) := by
  refine lv_aload_n F.1 F.2.1 dL_law_387 rfl (lv_at hl 2 rfl) ?_
  refine lw_arg 1 F hl hS.2.2 rfl (by decide) hi dL_law_388 dL_law_389 dL_law_390 dL_law_391 dL_law_392 ?_
  refine lw_cx (I' := jX4_front) (As := [iv (xs (4 * n + 1)).toInt]) (rest := []) F hl.1 hf dL_law_393 (ev_aw_of 492 (by decide +kernel) rfl : Cond.methodLink RL 69 yX4_front ∈ ev_aw) cyX4_front rfl rfl (Nat.le_of_ble_eq_true rfl) (ev_okc (ev_oki (ev_in_toInt _)) ev_oknil) ⟨Nat.le_of_ble_eq_true rfl, Nat.le_of_ble_eq_true rfl⟩ (Nat.le_of_ble_eq_true rfl) rfl rfl (s_X4_front hLI.1 (by omega)) hS rfl (fun r σ1 H1 locs1 hr hq hS1 => ?_)
  refine lv_aload_n F.1 F.2.1 dL_law_396 rfl (lv_at hl 1 rfl) ?_
  refine lw_arg 1 F hl hS1.2.2 rfl (by decide) hi dL_law_397 dL_law_398 dL_law_399 dL_law_400 dL_law_401 ?_
  refine lw_cm (I' := jX5_front) (As := [iv (xs (4 * n + 1)).toInt]) (rest := [.int (Int32.ofInt r)]) F hl.1 hf dL_law_402 (ev_aw_of 788 (by decide +kernel) rfl : Cond.methodLink RL 72 yX5_front ∈ ev_aw) cyX5_front rfl rfl (Nat.le_of_ble_eq_true rfl) (ev_okc (ev_oki (ev_in_toInt _)) ev_oknil) ⟨Nat.le_of_ble_eq_true rfl, Nat.le_of_ble_eq_true rfl⟩ (Nat.le_of_ble_eq_true rfl) rfl rfl (s_X5_front hLI.2.1 (by omega)) hS1 rfl (fun r1 τ1 H2 locs2 hr1 hq1 hS2 => ?_)
  obtain ⟨e1, hLI1⟩ := LK.of (L_front hLI) hq hq1
  exact lv_icmp_eq (tgt := 608) F.1 F.2.1 dL_law_405 rfl (fun _ => kk σ1 τ1 H2 locs2 hLI1 hS2) (fun h => absurd (by rw [e1]) h)
/-- tune -/
theorem lw_c14 {B : Int} (F : lw_Fx p s m c b L xs A Ex Em) (hl : lv_has ls 4 (lw_lv b Ex Em n)) (hf : cells ≤ room_1.cells ∧ slots ≤ room_1.slots) (hi : 4 * n + 4 ≤ L) (hB0 : 0 ≤ B) (hB : B ≤ 3000000) (hLI : LI B σ τ) (hS : lw_St A Ex Em σ τ s H locs)
    (kk : ∀ (σ1 τ1 : ev_M) (H1 : Heap) (locs1 : List Loc), LI (B + 4000) σ1 τ1 → lw_St A Ex Em σ1 τ1 s H1 locs1 → W p l e room_1 s m #[Value.ref b] below meth c H1 locs1 cells slots Q (F0 m 608 ls [])) : W p l e room_1 s m #[Value.ref b] below meth c H locs cells slots Q (F0 m 410 ls []) := by
  refine lv_aload_n F.1 F.2.1 dL_law_410 rfl (lv_at hl 2 rfl) ?_
  refine lw_arg 1 F hl hS.2.2 rfl (by decide) hi dL_law_411 dL_law_412 dL_law_413 dL_law_414 dL_law_415 ?_
  refine lw_arg 2 F hl hS.2.2 rfl (by decide) hi dL_law_416 dL_law_417 dL_law_418 dL_law_419 dL_law_420 ?_
  refine lw_arg 3 F hl hS.2.2 rfl (by decide) hi dL_law_421 dL_law_422 dL_law_423 dL_law_424 dL_law_425 ?_
  refine lw_cx (I' := jX4_tune) (As := [iv (xs (4 * n + 1)).toInt, iv (xs (4 * n + 2)).toInt, iv (xs (4 * n + 3)).toInt]) (rest := []) F hl.1 hf dL_law_426 (ev_aw_of 497 (by decide +kernel) rfl : Cond.methodLink RL 73 yX4_tune ∈ ev_aw) cyX4_tune rfl rfl (Nat.le_of_ble_eq_true rfl) (ev_okc (ev_oki (ev_in_toInt _)) (ev_okc (ev_oki (ev_in_toInt _)) (ev_okc (ev_oki (ev_in_toInt _)) ev_oknil))) ⟨Nat.le_of_ble_eq_true rfl, Nat.le_of_ble_eq_true rfl⟩ (Nat.le_of_ble_eq_true rfl) rfl rfl (s_X4_tune hLI.1 (by omega)) hS rfl (fun r σ1 H1 locs1 hr hq hS1 => ?_)
  refine lv_aload_n F.1 F.2.1 dL_law_429 rfl (lv_at hl 1 rfl) ?_
  refine lw_arg 1 F hl hS1.2.2 rfl (by decide) hi dL_law_430 dL_law_431 dL_law_432 dL_law_433 dL_law_434 ?_
  refine lw_arg 2 F hl hS1.2.2 rfl (by decide) hi dL_law_435 dL_law_436 dL_law_437 dL_law_438 dL_law_439 ?_
  refine lw_arg 3 F hl hS1.2.2 rfl (by decide) hi dL_law_440 dL_law_441 dL_law_442 dL_law_443 dL_law_444 ?_
  refine lw_cm (I' := jX5_tune) (As := [iv (xs (4 * n + 1)).toInt, iv (xs (4 * n + 2)).toInt, iv (xs (4 * n + 3)).toInt]) (rest := [.int (Int32.ofInt r)]) F hl.1 hf dL_law_445 (ev_aw_of 792 (by decide +kernel) rfl : Cond.methodLink RL 76 yX5_tune ∈ ev_aw) cyX5_tune rfl rfl (Nat.le_of_ble_eq_true rfl) (ev_okc (ev_oki (ev_in_toInt _)) (ev_okc (ev_oki (ev_in_toInt _)) (ev_okc (ev_oki (ev_in_toInt _)) ev_oknil))) ⟨Nat.le_of_ble_eq_true rfl, Nat.le_of_ble_eq_true rfl⟩ (Nat.le_of_ble_eq_true rfl) rfl rfl (s_X5_tune hLI.2.1 (by omega)) hS1 rfl (fun r1 τ1 H2 locs2 hr1 hq1 hS2 => ?_)
  obtain ⟨e1, hLI1⟩ := LK.of (L_tune hLI) hq hq1
  exact lv_icmp_eq (tgt := 608) F.1 F.2.1 dL_law_448 rfl (fun _ => kk σ1 τ1 H2 locs2 hLI1 hS2) (fun h => absurd (by rw [e1]) h)
/-- device -/
theorem lw_c15 {B : Int} (F : lw_Fx p s m c b L xs A Ex Em) (hl : lv_has ls 4 (lw_lv b Ex Em n)) (hf : cells ≤ room_1.cells ∧ slots ≤ room_1.slots) (hi : 4 * n + 4 ≤ L) (hB0 : 0 ≤ B) (hB : B ≤ 3000000) (hLI : LI B σ τ) (hS : lw_St A Ex Em σ τ s H locs)
    (kk : ∀ (σ1 τ1 : ev_M) (H1 : Heap) (locs1 : List Loc), LI (B + 4000) σ1 τ1 → lw_St A Ex Em σ1 τ1 s H1 locs1 → W p l e room_1 s m #[Value.ref b] below meth c H1 locs1 cells slots Q (F0 m 608 ls [])) : W p l e room_1 s m #[Value.ref b] below meth c H locs cells slots Q (F0 m 453 ls []) := by
  refine lv_aload_n F.1 F.2.1 dL_law_453 rfl (lv_at hl 2 rfl) ?_
  refine lw_arg 1 F hl hS.2.2 rfl (by decide) hi dL_law_454 dL_law_455 dL_law_456 dL_law_457 dL_law_458 ?_
  refine lw_arg 2 F hl hS.2.2 rfl (by decide) hi dL_law_459 dL_law_460 dL_law_461 dL_law_462 dL_law_463 ?_
  refine lw_cx (I' := jX4_device) (As := [iv (xs (4 * n + 1)).toInt, iv (xs (4 * n + 2)).toInt]) (rest := []) F hl.1 hf dL_law_464 (ev_aw_of 503 (by decide +kernel) rfl : Cond.methodLink RL 77 yX4_device ∈ ev_aw) cyX4_device rfl rfl (Nat.le_of_ble_eq_true rfl) (ev_okc (ev_oki (ev_in_toInt _)) (ev_okc (ev_oki (ev_in_toInt _)) ev_oknil)) ⟨Nat.le_of_ble_eq_true rfl, Nat.le_of_ble_eq_true rfl⟩ (Nat.le_of_ble_eq_true rfl) rfl rfl (s_X4_device hLI.1 (by omega)) hS rfl (fun r σ1 H1 locs1 hr hq hS1 => ?_)
  refine lv_aload_n F.1 F.2.1 dL_law_467 rfl (lv_at hl 1 rfl) ?_
  refine lw_arg 1 F hl hS1.2.2 rfl (by decide) hi dL_law_468 dL_law_469 dL_law_470 dL_law_471 dL_law_472 ?_
  refine lw_arg 2 F hl hS1.2.2 rfl (by decide) hi dL_law_473 dL_law_474 dL_law_475 dL_law_476 dL_law_477 ?_
  refine lw_cm (I' := jX5_device) (As := [iv (xs (4 * n + 1)).toInt, iv (xs (4 * n + 2)).toInt]) (rest := [.int (Int32.ofInt r)]) F hl.1 hf dL_law_478 (ev_aw_of 796 (by decide +kernel) rfl : Cond.methodLink RL 80 yX5_device ∈ ev_aw) cyX5_device rfl rfl (Nat.le_of_ble_eq_true rfl) (ev_okc (ev_oki (ev_in_toInt _)) (ev_okc (ev_oki (ev_in_toInt _)) ev_oknil)) ⟨Nat.le_of_ble_eq_true rfl, Nat.le_of_ble_eq_true rfl⟩ (Nat.le_of_ble_eq_true rfl) rfl rfl (s_X5_device hLI.2.1 (by omega)) hS1 rfl (fun r1 τ1 H2 locs2 hr1 hq1 hS2 => ?_)
  obtain ⟨e1, hLI1⟩ := LK.of (L_device hLI) hq hq1
  exact lv_icmp_eq (tgt := 608) F.1 F.2.1 dL_law_481 rfl (fun _ => kk σ1 τ1 H2 locs2 hLI1 hS2) (fun h => absurd (by rw [e1]) h)
/-- row -/
theorem lw_c16 {B : Int} (F : lw_Fx p s m c b L xs A Ex Em) (hl : lv_has ls 4 (lw_lv b Ex Em n)) (hf : cells ≤ room_1.cells ∧ slots ≤ room_1.slots) (hi : 4 * n + 4 ≤ L) (hB0 : 0 ≤ B) (hB : B ≤ 3000000) (hLI : LI B σ τ) (hS : lw_St A Ex Em σ τ s H locs)
    (kk : ∀ (σ1 τ1 : ev_M) (H1 : Heap) (locs1 : List Loc), LI (B + 4000) σ1 τ1 → lw_St A Ex Em σ1 τ1 s H1 locs1 → W p l e room_1 s m #[Value.ref b] below meth c H1 locs1 cells slots Q (F0 m 608 ls [])) : W p l e room_1 s m #[Value.ref b] below meth c H locs cells slots Q (F0 m 486 ls []) := by
  refine lv_aload_n F.1 F.2.1 dL_law_486 rfl (lv_at hl 2 rfl) ?_
  refine lw_arg 1 F hl hS.2.2 rfl (by decide) hi dL_law_487 dL_law_488 dL_law_489 dL_law_490 dL_law_491 ?_
  refine lw_arg 2 F hl hS.2.2 rfl (by decide) hi dL_law_492 dL_law_493 dL_law_494 dL_law_495 dL_law_496 ?_
  refine lw_arg 3 F hl hS.2.2 rfl (by decide) hi dL_law_497 dL_law_498 dL_law_499 dL_law_500 dL_law_501 ?_
  refine lw_cx (I' := jX4_row) (As := [iv (xs (4 * n + 1)).toInt, iv (xs (4 * n + 2)).toInt, iv (xs (4 * n + 3)).toInt]) (rest := []) F hl.1 hf dL_law_502 (ev_aw_of 515 (by decide +kernel) rfl : Cond.methodLink RL 81 yX4_row ∈ ev_aw) cyX4_row rfl rfl (Nat.le_of_ble_eq_true rfl) (ev_okc (ev_oki (ev_in_toInt _)) (ev_okc (ev_oki (ev_in_toInt _)) (ev_okc (ev_oki (ev_in_toInt _)) ev_oknil))) ⟨Nat.le_of_ble_eq_true rfl, Nat.le_of_ble_eq_true rfl⟩ (Nat.le_of_ble_eq_true rfl) rfl rfl (s_X4_row hLI.1 (by omega)) hS rfl (fun r σ1 H1 locs1 hr hq hS1 => ?_)
  refine lv_aload_n F.1 F.2.1 dL_law_505 rfl (lv_at hl 1 rfl) ?_
  refine lw_arg 1 F hl hS1.2.2 rfl (by decide) hi dL_law_506 dL_law_507 dL_law_508 dL_law_509 dL_law_510 ?_
  refine lw_arg 2 F hl hS1.2.2 rfl (by decide) hi dL_law_511 dL_law_512 dL_law_513 dL_law_514 dL_law_515 ?_
  refine lw_arg 3 F hl hS1.2.2 rfl (by decide) hi dL_law_516 dL_law_517 dL_law_518 dL_law_519 dL_law_520 ?_
  refine lw_cm (I' := jX5_row) (As := [iv (xs (4 * n + 1)).toInt, iv (xs (4 * n + 2)).toInt, iv (xs (4 * n + 3)).toInt]) (rest := [.int (Int32.ofInt r)]) F hl.1 hf dL_law_521 (ev_aw_of 800 (by decide +kernel) rfl : Cond.methodLink RL 84 yX5_row ∈ ev_aw) cyX5_row rfl rfl (Nat.le_of_ble_eq_true rfl) (ev_okc (ev_oki (ev_in_toInt _)) (ev_okc (ev_oki (ev_in_toInt _)) (ev_okc (ev_oki (ev_in_toInt _)) ev_oknil))) ⟨Nat.le_of_ble_eq_true rfl, Nat.le_of_ble_eq_true rfl⟩ (Nat.le_of_ble_eq_true rfl) rfl rfl (s_X5_row hLI.2.1 (by omega)) hS1 rfl (fun r1 τ1 H2 locs2 hr1 hq1 hS2 => ?_)
  obtain ⟨e1, hLI1⟩ := LK.of (L_row hLI) hq hq1
  exact lv_icmp_eq (tgt := 608) F.1 F.2.1 dL_law_524 rfl (fun _ => kk σ1 τ1 H2 locs2 hLI1 hS2) (fun h => absurd (by rw [e1]) h)
/-- bus -/
theorem lw_c17 {B : Int} (F : lw_Fx p s m c b L xs A Ex Em) (hl : lv_has ls 4 (lw_lv b Ex Em n)) (hf : cells ≤ room_1.cells ∧ slots ≤ room_1.slots) (hi : 4 * n + 4 ≤ L) (hB0 : 0 ≤ B) (hB : B ≤ 3000000) (hLI : LI B σ τ) (hS : lw_St A Ex Em σ τ s H locs)
    (kk : ∀ (σ1 τ1 : ev_M) (H1 : Heap) (locs1 : List Loc), LI (B + 4000) σ1 τ1 → lw_St A Ex Em σ1 τ1 s H1 locs1 → W p l e room_1 s m #[Value.ref b] below meth c H1 locs1 cells slots Q (F0 m 608 ls [])) : W p l e room_1 s m #[Value.ref b] below meth c H locs cells slots Q (F0 m 529 ls []) := by
  refine lv_aload_n F.1 F.2.1 dL_law_529 rfl (lv_at hl 2 rfl) ?_
  refine lw_arg 1 F hl hS.2.2 rfl (by decide) hi dL_law_530 dL_law_531 dL_law_532 dL_law_533 dL_law_534 ?_
  refine lw_cx (I' := jX4_bus) (As := [iv (xs (4 * n + 1)).toInt]) (rest := []) F hl.1 hf dL_law_535 (ev_aw_of 523 (by decide +kernel) rfl : Cond.methodLink RL 85 yX4_bus ∈ ev_aw) cyX4_bus rfl rfl (Nat.le_of_ble_eq_true rfl) (ev_okc (ev_oki (ev_in_toInt _)) ev_oknil) ⟨Nat.le_of_ble_eq_true rfl, Nat.le_of_ble_eq_true rfl⟩ (Nat.le_of_ble_eq_true rfl) rfl rfl (s_X4_bus hLI.1) hS rfl (fun r σ1 H1 locs1 hr hq hS1 => ?_)
  refine lv_aload_n F.1 F.2.1 dL_law_538 rfl (lv_at hl 1 rfl) ?_
  refine lw_arg 1 F hl hS1.2.2 rfl (by decide) hi dL_law_539 dL_law_540 dL_law_541 dL_law_542 dL_law_543 ?_
  refine lw_cm (I' := jX5_bus) (As := [iv (xs (4 * n + 1)).toInt]) (rest := [.int (Int32.ofInt r)]) F hl.1 hf dL_law_544 (ev_aw_of 804 (by decide +kernel) rfl : Cond.methodLink RL 88 yX5_bus ∈ ev_aw) cyX5_bus rfl rfl (Nat.le_of_ble_eq_true rfl) (ev_okc (ev_oki (ev_in_toInt _)) ev_oknil) ⟨Nat.le_of_ble_eq_true rfl, Nat.le_of_ble_eq_true rfl⟩ (Nat.le_of_ble_eq_true rfl) rfl rfl (s_X5_bus hLI.2.1) hS1 rfl (fun r1 τ1 H2 locs2 hr1 hq1 hS2 => ?_)
  obtain ⟨e1, hLI1⟩ := L_bus hLI hq hq1
  exact lv_icmp_eq (tgt := 608) F.1 F.2.1 dL_law_547 rfl (fun _ => kk σ1 τ1 H2 locs2 hLI1 hS2) (fun h => absurd (by rw [e1]) h)
/-- sum -/
theorem lw_c18 {B : Int} (F : lw_Fx p s m c b L xs A Ex Em) (hl : lv_has ls 4 (lw_lv b Ex Em n)) (hf : cells ≤ room_1.cells ∧ slots ≤ room_1.slots) (hi : 4 * n + 4 ≤ L) (hB0 : 0 ≤ B) (hB : B ≤ 3000000) (hLI : LI B σ τ) (hS : lw_St A Ex Em σ τ s H locs)
    (kk : ∀ (σ1 τ1 : ev_M) (H1 : Heap) (locs1 : List Loc), LI (B + 4000) σ1 τ1 → lw_St A Ex Em σ1 τ1 s H1 locs1 → W p l e room_1 s m #[Value.ref b] below meth c H1 locs1 cells slots Q (F0 m 608 ls [])) : W p l e room_1 s m #[Value.ref b] below meth c H locs cells slots Q (F0 m 552 ls []) := by
  refine lv_aload_n F.1 F.2.1 dL_law_552 rfl (lv_at hl 2 rfl) ?_
  refine lw_arg 1 F hl hS.2.2 rfl (by decide) hi dL_law_553 dL_law_554 dL_law_555 dL_law_556 dL_law_557 ?_
  refine lw_cx (I' := jX4_sum) (As := [iv (xs (4 * n + 1)).toInt]) (rest := []) F hl.1 hf dL_law_558 (ev_aw_of 535 (by decide +kernel) rfl : Cond.methodLink RL 89 yX4_sum ∈ ev_aw) cyX4_sum rfl rfl (Nat.le_of_ble_eq_true rfl) (ev_okc (ev_oki (ev_in_toInt _)) ev_oknil) ⟨Nat.le_of_ble_eq_true rfl, Nat.le_of_ble_eq_true rfl⟩ (Nat.le_of_ble_eq_true rfl) rfl rfl (s_X4_sum hLI.1 (by omega)) hS rfl (fun r σ1 H1 locs1 hr hq hS1 => ?_)
  refine lv_aload_n F.1 F.2.1 dL_law_561 rfl (lv_at hl 1 rfl) ?_
  refine lw_arg 1 F hl hS1.2.2 rfl (by decide) hi dL_law_562 dL_law_563 dL_law_564 dL_law_565 dL_law_566 ?_
  refine lw_cm (I' := jX5_sum) (As := [iv (xs (4 * n + 1)).toInt]) (rest := [.int (Int32.ofInt r)]) F hl.1 hf dL_law_567 (ev_aw_of 812 (by decide +kernel) rfl : Cond.methodLink RL 92 yX5_sum ∈ ev_aw) cyX5_sum rfl rfl (Nat.le_of_ble_eq_true rfl) (ev_okc (ev_oki (ev_in_toInt _)) ev_oknil) ⟨Nat.le_of_ble_eq_true rfl, Nat.le_of_ble_eq_true rfl⟩ (Nat.le_of_ble_eq_true rfl) rfl rfl (s_X5_sum hLI.2.1 (by omega)) hS1 rfl (fun r1 τ1 H2 locs2 hr1 hq1 hS2 => ?_)
  obtain ⟨e1, hLI1⟩ := LK.of (L_sum hLI) hq hq1
  exact lv_icmp_eq (tgt := 608) F.1 F.2.1 dL_law_570 rfl (fun _ => kk σ1 τ1 H2 locs2 hLI1 hS2) (fun h => absurd (by rw [e1]) h)
/-- log -/
theorem lw_c19 {B : Int} (F : lw_Fx p s m c b L xs A Ex Em) (hl : lv_has ls 4 (lw_lv b Ex Em n)) (hf : cells ≤ room_1.cells ∧ slots ≤ room_1.slots) (hi : 4 * n + 4 ≤ L) (hB0 : 0 ≤ B) (hB : B ≤ 3000000) (hLI : LI B σ τ) (hS : lw_St A Ex Em σ τ s H locs)
    (kk : ∀ (σ1 τ1 : ev_M) (H1 : Heap) (locs1 : List Loc), LI (B + 4000) σ1 τ1 → lw_St A Ex Em σ1 τ1 s H1 locs1 → W p l e room_1 s m #[Value.ref b] below meth c H1 locs1 cells slots Q (F0 m 608 ls [])) : W p l e room_1 s m #[Value.ref b] below meth c H locs cells slots Q (F0 m 575 ls []) := by
  refine lv_aload_n F.1 F.2.1 dL_law_575 rfl (lv_at hl 2 rfl) ?_
  refine lw_arg 1 F hl hS.2.2 rfl (by decide) hi dL_law_576 dL_law_577 dL_law_578 dL_law_579 dL_law_580 ?_
  refine lw_arg 2 F hl hS.2.2 rfl (by decide) hi dL_law_581 dL_law_582 dL_law_583 dL_law_584 dL_law_585 ?_
  refine lw_cx (I' := jX4_log) (As := [iv (xs (4 * n + 1)).toInt, iv (xs (4 * n + 2)).toInt]) (rest := []) F hl.1 hf dL_law_586 (ev_aw_of 539 (by decide +kernel) rfl : Cond.methodLink RL 93 yX4_log ∈ ev_aw) cyX4_log rfl rfl (Nat.le_of_ble_eq_true rfl) (ev_okc (ev_oki (ev_in_toInt _)) (ev_okc (ev_oki (ev_in_toInt _)) ev_oknil)) ⟨Nat.le_of_ble_eq_true rfl, Nat.le_of_ble_eq_true rfl⟩ (Nat.le_of_ble_eq_true rfl) rfl rfl (s_X4_log hLI.1 (by omega)) hS rfl (fun r σ1 H1 locs1 hr hq hS1 => ?_)
  refine lv_aload_n F.1 F.2.1 dL_law_589 rfl (lv_at hl 1 rfl) ?_
  refine lw_arg 1 F hl hS1.2.2 rfl (by decide) hi dL_law_590 dL_law_591 dL_law_592 dL_law_593 dL_law_594 ?_
  refine lw_arg 2 F hl hS1.2.2 rfl (by decide) hi dL_law_595 dL_law_596 dL_law_597 dL_law_598 dL_law_599 ?_
  refine lw_cm (I' := jX5_log) (As := [iv (xs (4 * n + 1)).toInt, iv (xs (4 * n + 2)).toInt]) (rest := [.int (Int32.ofInt r)]) F hl.1 hf dL_law_600 (ev_aw_of 816 (by decide +kernel) rfl : Cond.methodLink RL 96 yX5_log ∈ ev_aw) cyX5_log rfl rfl (Nat.le_of_ble_eq_true rfl) (ev_okc (ev_oki (ev_in_toInt _)) (ev_okc (ev_oki (ev_in_toInt _)) ev_oknil)) ⟨Nat.le_of_ble_eq_true rfl, Nat.le_of_ble_eq_true rfl⟩ (Nat.le_of_ble_eq_true rfl) rfl rfl (s_X5_log hLI.2.1 (by omega)) hS1 rfl (fun r1 τ1 H2 locs2 hr1 hq1 hS2 => ?_)
  obtain ⟨e1, hLI1⟩ := LK.of (L_log hLI) hq hq1
  exact lv_icmp_eq (tgt := 608) F.1 F.2.1 dL_law_603 rfl (fun _ => kk σ1 τ1 H2 locs2 hLI1 hS2) (fun h => absurd (by rw [e1]) h)
theorem lw_and (x : Int32) : 0 ≤ (x &&& 31).toInt ∧ (x &&& 31).toInt ≤ 31 := by
  have hn : (x &&& 31).toBitVec.toNat ≤ 31 := by
    rw [Int32.toBitVec_and, BitVec.toNat_and]
    exact Nat.and_le_right
  have e : (x &&& 31).toInt = ((x &&& 31).toBitVec.toNat : Int) := by
    show (x &&& 31).toBitVec.toInt = _
    exact BitVec.toInt_eq_toNat_of_lt (by omega)
  omega
/-- one round of the loop, behind its test -/
theorem lw_body {B : Int} (F : lw_Fx p s m c b L xs A Ex Em) (hl : lv_has ls 4 (lw_lv b Ex Em n)) (hf : cells ≤ room_1.cells ∧ slots ≤ room_1.slots) (hi : 4 * n + 4 ≤ L) (hB0 : 0 ≤ B) (hB : B ≤ 3000000) (hLI : LI B σ τ) (hS : lw_St A Ex Em σ τ s H locs)
    (kk : ∀ (σ1 τ1 : ev_M) (H1 : Heap) (locs1 : List Loc), LI (B + 4000) σ1 τ1 → lw_St A Ex Em σ1 τ1 s H1 locs1 → W p l e room_1 s m #[Value.ref b] below meth c H1 locs1 cells slots Q (F0 m 608 ls [])) : W p l e room_1 s m #[Value.ref b] below meth c H locs cells slots Q (F0 m 26 ls []) := by
  obtain ⟨x1, x2, x3, x4, x5, x6, x7, x8, x9, x10⟩ := id F
  refine lv_aload_n x1 x2 dL_law_26 rfl (lv_at hl 3 rfl) ?_
  refine lv_iload_n (x := Int32.ofInt ((4 * n : Nat) : Int)) x1 x2 dL_law_27 rfl (lv_at hl 0 rfl) ?_
  have hz1 : ev_in ((4 * n : Nat) : Int) := ⟨by omega, by omega⟩
  refine va_sld x1 x2 x6 x7 x8 hS.2.2 (ev_vpin hz1 (by omega) (by omega)) dL_law_28 ?_
  refine lv_bipush (v := 31) x1 x2 dL_law_29 (by decide) ?_
  refine lv_iand x1 x2 dL_law_31 ?_
  have ha := lw_and (xs (Int32.ofInt ((4 * n : Nat) : Int)).toNatClampNeg)
  generalize xs (Int32.ofInt ((4 * n : Nat) : Int)).toNatClampNeg &&& 31 = y at ha ⊢
  by_cases hy : 19 < y.toInt
  · refine lv_tableOut (tgt := 608) x1 x2 dL_law_32 (Or.inr hy) rfl ?_
    exact kk σ τ H locs ⟨hLI.1.mono (by omega), hLI.2.1.mono (by omega), hLI.2.2⟩ hS
  · have hc : y.toInt = 0 ∨ y.toInt = 1 ∨ y.toInt = 2 ∨ y.toInt = 3 ∨ y.toInt = 4 ∨ y.toInt = 5 ∨ y.toInt = 6 ∨ y.toInt = 7 ∨ y.toInt = 8 ∨ y.toInt = 9 ∨ y.toInt = 10 ∨ y.toInt = 11 ∨ y.toInt = 12 ∨ y.toInt = 13 ∨ y.toInt = 14 ∨ y.toInt = 15 ∨ y.toInt = 16 ∨ y.toInt = 17 ∨ y.toInt = 18 ∨ y.toInt = 19 := by omega
    rcases hc with hv | hv | hv | hv | hv | hv | hv | hv | hv | hv | hv | hv | hv | hv | hv | hv | hv | hv | hv | hv
    · refine lv_tableIn (off := 96) (tgt := 128) x1 x2 dL_law_32 (by rw [hv]; decide) (by rw [hv]; decide) (by rw [hv]; rfl) rfl ?_
      exact lw_c0 F hl hf hi hB0 hB hLI hS kk
    · refine lv_tableIn (off := 119) (tgt := 151) x1 x2 dL_law_32 (by rw [hv]; decide) (by rw [hv]; decide) (by rw [hv]; rfl) rfl ?_
      exact lw_c1 F hl hf hi hB0 hB hLI hS kk
    · refine lv_tableIn (off := 132) (tgt := 164) x1 x2 dL_law_32 (by rw [hv]; decide) (by rw [hv]; decide) (by rw [hv]; rfl) rfl ?_
      exact lw_c2 F hl hf hi hB0 hB hLI hS kk
    · refine lv_tableIn (off := 145) (tgt := 177) x1 x2 dL_law_32 (by rw [hv]; decide) (by rw [hv]; decide) (by rw [hv]; rfl) rfl ?_
      exact lw_c3 F hl hf hi hB0 hB hLI hS kk
    · refine lv_tableIn (off := 158) (tgt := 190) x1 x2 dL_law_32 (by rw [hv]; decide) (by rw [hv]; decide) (by rw [hv]; rfl) rfl ?_
      exact lw_c4 F hl hf hi hB0 hB hLI hS kk
    · refine lv_tableIn (off := 181) (tgt := 213) x1 x2 dL_law_32 (by rw [hv]; decide) (by rw [hv]; decide) (by rw [hv]; rfl) rfl ?_
      exact lw_c5 F hl hf hi hB0 hB hLI hS kk
    · refine lv_tableIn (off := 194) (tgt := 226) x1 x2 dL_law_32 (by rw [hv]; decide) (by rw [hv]; decide) (by rw [hv]; rfl) rfl ?_
      exact lw_c6 F hl hf hi hB0 hB hLI hS kk
    · refine lv_tableIn (off := 217) (tgt := 249) x1 x2 dL_law_32 (by rw [hv]; decide) (by rw [hv]; decide) (by rw [hv]; rfl) rfl ?_
      exact lw_c7 F hl hf hi hB0 hB hLI hS kk
    · refine lv_tableIn (off := 230) (tgt := 262) x1 x2 dL_law_32 (by rw [hv]; decide) (by rw [hv]; decide) (by rw [hv]; rfl) rfl ?_
      exact lw_c8 F hl hf hi hB0 hB hLI hS kk
    · refine lv_tableIn (off := 243) (tgt := 275) x1 x2 dL_law_32 (by rw [hv]; decide) (by rw [hv]; decide) (by rw [hv]; rfl) rfl ?_
      exact lw_c9 F hl hf hi hB0 hB hLI hS kk
    · refine lv_tableIn (off := 256) (tgt := 288) x1 x2 dL_law_32 (by rw [hv]; decide) (by rw [hv]; decide) (by rw [hv]; rfl) rfl ?_
      exact lw_c10 F hl hf hi hB0 hB hLI hS kk
    · refine lv_tableIn (off := 289) (tgt := 321) x1 x2 dL_law_32 (by rw [hv]; decide) (by rw [hv]; decide) (by rw [hv]; rfl) rfl ?_
      exact lw_c11 F hl hf hi hB0 hB hLI hS kk
    · refine lv_tableIn (off := 312) (tgt := 344) x1 x2 dL_law_32 (by rw [hv]; decide) (by rw [hv]; decide) (by rw [hv]; rfl) rfl ?_
      exact lw_c12 F hl hf hi hB0 hB hLI hS kk
    · refine lv_tableIn (off := 355) (tgt := 387) x1 x2 dL_law_32 (by rw [hv]; decide) (by rw [hv]; decide) (by rw [hv]; rfl) rfl ?_
      exact lw_c13 F hl hf hi hB0 hB hLI hS kk
    · refine lv_tableIn (off := 378) (tgt := 410) x1 x2 dL_law_32 (by rw [hv]; decide) (by rw [hv]; decide) (by rw [hv]; rfl) rfl ?_
      exact lw_c14 F hl hf hi hB0 hB hLI hS kk
    · refine lv_tableIn (off := 421) (tgt := 453) x1 x2 dL_law_32 (by rw [hv]; decide) (by rw [hv]; decide) (by rw [hv]; rfl) rfl ?_
      exact lw_c15 F hl hf hi hB0 hB hLI hS kk
    · refine lv_tableIn (off := 454) (tgt := 486) x1 x2 dL_law_32 (by rw [hv]; decide) (by rw [hv]; decide) (by rw [hv]; rfl) rfl ?_
      exact lw_c16 F hl hf hi hB0 hB hLI hS kk
    · refine lv_tableIn (off := 497) (tgt := 529) x1 x2 dL_law_32 (by rw [hv]; decide) (by rw [hv]; decide) (by rw [hv]; rfl) rfl ?_
      exact lw_c17 F hl hf hi hB0 hB hLI hS kk
    · refine lv_tableIn (off := 520) (tgt := 552) x1 x2 dL_law_32 (by rw [hv]; decide) (by rw [hv]; decide) (by rw [hv]; rfl) rfl ?_
      exact lw_c18 F hl hf hi hB0 hB hLI hS kk
    · refine lv_tableIn (off := 543) (tgt := 575) x1 x2 dL_law_32 (by rw [hv]; decide) (by rw [hv]; decide) (by rw [hv]; rfl) rfl ?_
      exact lw_c19 F hl hf hi hB0 hB hLI hS kk
/-- the loop -/
theorem lw_loop (f : Nat) : ∀ (n : Nat) (ls : Array Slot) (σ τ : ev_M) (H : Heap) (locs : List Loc), L < 4 * (n + f) + 4 → lw_Fx p s m c b L xs A Ex Em → lv_has ls 4 (lw_lv b Ex Em n) → cells ≤ room_1.cells ∧ slots ≤ room_1.slots → 4 * n ≤ 2048 → LI (4000 * (n : Int)) σ τ → lw_St A Ex Em σ τ s H locs →
    (∀ (ls1 : Array Slot) (H1 : Heap) (locs1 : List Loc), va_S A s.heap H1 locs1 → W p l e room_1 s m #[Value.ref b] below meth c H1 locs1 cells slots Q (F0 m 614 ls1 [])) → W p l e room_1 s m #[Value.ref b] below meth c H locs cells slots Q (F0 m 18 ls []) := by
  have head : ∀ (n : Nat) (ls : Array Slot) (σ τ : ev_M) (H : Heap) (locs : List Loc), lw_Fx p s m c b L xs A Ex Em → lv_has ls 4 (lw_lv b Ex Em n) → 4 * n ≤ 2048 → lw_St A Ex Em σ τ s H locs →
      (L < 4 * n + 4 → W p l e room_1 s m #[Value.ref b] below meth c H locs cells slots Q (F0 m 614 ls [])) → (4 * n + 4 ≤ L → W p l e room_1 s m #[Value.ref b] below meth c H locs cells slots Q (F0 m 26 ls [])) → W p l e room_1 s m #[Value.ref b] below meth c H locs cells slots Q (F0 m 18 ls []) := by
    intro n ls σ τ H locs F hl hn hS k1 k2
    obtain ⟨x1, x2, x3, x4, x5, x6, x7, x8, x9, x10⟩ := F
    refine lv_iload_n (x := Int32.ofInt ((4 * n : Nat) : Int)) x1 x2 dL_law_18 rfl (lv_at hl 0 rfl) ?_
    refine lv_aload_n x1 x2 dL_law_19 rfl (lv_at hl 3 rfl) ?_
    refine va_slen x1 x2 x6 x7 x8 hS.2.2 dL_law_20 ?_
    refine lv_iconst (v := 4) x1 x2 dL_law_21 (by decide) ?_
    refine lv_isub x1 x2 dL_law_22 ?_
    have he : Int32.ofNat L - 4 = Int32.ofInt ((L : Int) - 4) := by
      rw [Int32.ofInt_sub]
      rfl
    rw [he]
    have i1 : ev_in ((L : Int) - 4) := ⟨by omega, by omega⟩
    have i2 : ev_in ((4 * n : Nat) : Int) := ⟨by omega, by omega⟩
    refine lv_icmp_gt (tgt := 614) x1 x2 dL_law_23 rfl (fun h => k1 ?_) (fun h => k2 ?_)
    · rw [ev_lt i1 i2] at h
      omega
    · rw [ev_lt i1 i2] at h
      omega
  induction f with
  | zero =>
    intro n ls σ τ H locs hL F hl hf hn hLI hS kk
    exact head n ls σ τ H locs F hl hn hS (fun _ => kk ls H locs hS.2.2) (fun h => absurd h (by omega))
  | succ f ih =>
    intro n ls σ τ H locs hL F hl hf hn hLI hS kk
    refine head n ls σ τ H locs F hl hn hS (fun _ => kk ls H locs hS.2.2) (fun h => ?_)
    have hL2 : L ≤ 2048 := F.2.2.2.2.2.2.2.2.1
    refine lw_body F hl hf h (by omega) (by omega) hLI hS (fun σ1 τ1 H1 locs1 hLI1 hS1 => ?_)
    have he : Int32.ofInt ((4 * n : Nat) : Int) + Int32.ofInt 4 = Int32.ofInt ((4 * (n + 1) : Nat) : Int) := by
      rw [← Int32.ofInt_add]
      congr 1
    refine lv_iinc (k := 0) (lv' := lw_lv b Ex Em (n + 1)) F.1 F.2.1 dL_law_608 hl rfl he (by decide) rfl (fun ls1 hl1 => ?_)
    refine lv_goto (tgt := 18) F.1 F.2.1 dL_law_611 rfl ?_
    refine ih (n + 1) ls1 σ1 τ1 H1 locs1 (by omega) F hl1 hf (by omega) ?_ hS1 kk
    have e2 : (4000 * ((n + 1 : Nat) : Int)) = 4000 * (n : Int) + 4000 := by omega
    rw [e2]
    exact hLI1
end LL
