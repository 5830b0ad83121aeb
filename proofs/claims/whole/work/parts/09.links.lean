/-! what the tables say, by places: classes, fields, methods, links -/
set_option maxRecDepth 20000 in
theorem cl_0 : ev_C 0 RX0 TX0 2 := ⟨rfl, (fun w hw => by
  obtain ⟨k, hk, rfl⟩ := List.mem_map.mp hw
  have hk := List.mem_range.mp hk
  match k, hk with
  | 0, _ => exact ev_aw_of 116 (by decide +kernel) (by decide +kernel)
  | 1, _ => exact ev_aw_of 118 (by decide +kernel) (by decide +kernel)
  | k + 2, h => exact absurd h (by omega)), ⟨tyX0, tyX0_ok⟩, nmX0⟩
set_option maxRecDepth 20000 in
theorem cl_1 : ev_C 1 RX1 TX1 5 := ⟨rfl, (fun w hw => by
  obtain ⟨k, hk, rfl⟩ := List.mem_map.mp hw
  have hk := List.mem_range.mp hk
  match k, hk with
  | 0, _ => exact ev_aw_of 204 (by decide +kernel) (by decide +kernel)
  | 1, _ => exact ev_aw_of 206 (by decide +kernel) (by decide +kernel)
  | 2, _ => exact ev_aw_of 208 (by decide +kernel) (by decide +kernel)
  | 3, _ => exact ev_aw_of 210 (by decide +kernel) (by decide +kernel)
  | 4, _ => exact ev_aw_of 212 (by decide +kernel) (by decide +kernel)
  | k + 5, h => exact absurd h (by omega)), ⟨tyX1, tyX1_ok⟩, nmX1⟩
set_option maxRecDepth 20000 in
theorem cl_2 : ev_C 2 RX2 TX2 18 := ⟨rfl, (fun w hw => by
  obtain ⟨k, hk, rfl⟩ := List.mem_map.mp hw
  have hk := List.mem_range.mp hk
  match k, hk with
  | 0, _ => exact ev_aw_of 155 (by decide +kernel) (by decide +kernel)
  | 1, _ => exact ev_aw_of 157 (by decide +kernel) (by decide +kernel)
  | 2, _ => exact ev_aw_of 159 (by decide +kernel) (by decide +kernel)
  | 3, _ => exact ev_aw_of 161 (by decide +kernel) (by decide +kernel)
  | 4, _ => exact ev_aw_of 163 (by decide +kernel) (by decide +kernel)
  | 5, _ => exact ev_aw_of 165 (by decide +kernel) (by decide +kernel)
  | 6, _ => exact ev_aw_of 167 (by decide +kernel) (by decide +kernel)
  | 7, _ => exact ev_aw_of 169 (by decide +kernel) (by decide +kernel)
  | 8, _ => exact ev_aw_of 171 (by decide +kernel) (by decide +kernel)
  | 9, _ => exact ev_aw_of 173 (by decide +kernel) (by decide +kernel)
  | 10, _ => exact ev_aw_of 175 (by decide +kernel) (by decide +kernel)
  | 11, _ => exact ev_aw_of 177 (by decide +kernel) (by decide +kernel)
  | 12, _ => exact ev_aw_of 179 (by decide +kernel) (by decide +kernel)
  | 13, _ => exact ev_aw_of 181 (by decide +kernel) (by decide +kernel)
  | 14, _ => exact ev_aw_of 183 (by decide +kernel) (by decide +kernel)
  | 15, _ => exact ev_aw_of 185 (by decide +kernel) (by decide +kernel)
  | 16, _ => exact ev_aw_of 187 (by decide +kernel) (by decide +kernel)
  | 17, _ => exact ev_aw_of 189 (by decide +kernel) (by decide +kernel)
  | k + 18, h => exact absurd h (by omega)), ⟨tyX2, tyX2_ok⟩, nmX2⟩
set_option maxRecDepth 20000 in
theorem cl_3 : ev_C 3 RX3 TX3 4 := ⟨rfl, (fun w hw => by
  obtain ⟨k, hk, rfl⟩ := List.mem_map.mp hw
  have hk := List.mem_range.mp hk
  match k, hk with
  | 0, _ => exact ev_aw_of 88 (by decide +kernel) (by decide +kernel)
  | 1, _ => exact ev_aw_of 90 (by decide +kernel) (by decide +kernel)
  | 2, _ => exact ev_aw_of 92 (by decide +kernel) (by decide +kernel)
  | 3, _ => exact ev_aw_of 94 (by decide +kernel) (by decide +kernel)
  | k + 4, h => exact absurd h (by omega)), ⟨tyX3, tyX3_ok⟩, nmX3⟩
set_option maxRecDepth 20000 in
theorem cl_4 : ev_C 4 RX4 TX4 10 := ⟨rfl, (fun w hw => by
  obtain ⟨k, hk, rfl⟩ := List.mem_map.mp hw
  have hk := List.mem_range.mp hk
  match k, hk with
  | 0, _ => exact ev_aw_of 247 (by decide +kernel) (by decide +kernel)
  | 1, _ => exact ev_aw_of 249 (by decide +kernel) (by decide +kernel)
  | 2, _ => exact ev_aw_of 251 (by decide +kernel) (by decide +kernel)
  | 3, _ => exact ev_aw_of 253 (by decide +kernel) (by decide +kernel)
  | 4, _ => exact ev_aw_of 255 (by decide +kernel) (by decide +kernel)
  | 5, _ => exact ev_aw_of 257 (by decide +kernel) (by decide +kernel)
  | 6, _ => exact ev_aw_of 259 (by decide +kernel) (by decide +kernel)
  | 7, _ => exact ev_aw_of 261 (by decide +kernel) (by decide +kernel)
  | 8, _ => exact ev_aw_of 263 (by decide +kernel) (by decide +kernel)
  | 9, _ => exact ev_aw_of 265 (by decide +kernel) (by decide +kernel)
  | k + 10, h => exact absurd h (by omega)), ⟨tyX4, tyX4_ok⟩, nmX4⟩
set_option maxRecDepth 20000 in
theorem cl_5 : ev_C 5 RX5 TX5 20 := ⟨rfl, (fun w hw => by
  obtain ⟨k, hk, rfl⟩ := List.mem_map.mp hw
  have hk := List.mem_range.mp hk
  match k, hk with
  | 0, _ => exact ev_aw_of 581 (by decide +kernel) (by decide +kernel)
  | 1, _ => exact ev_aw_of 583 (by decide +kernel) (by decide +kernel)
  | 2, _ => exact ev_aw_of 585 (by decide +kernel) (by decide +kernel)
  | 3, _ => exact ev_aw_of 587 (by decide +kernel) (by decide +kernel)
  | 4, _ => exact ev_aw_of 589 (by decide +kernel) (by decide +kernel)
  | 5, _ => exact ev_aw_of 591 (by decide +kernel) (by decide +kernel)
  | 6, _ => exact ev_aw_of 593 (by decide +kernel) (by decide +kernel)
  | 7, _ => exact ev_aw_of 595 (by decide +kernel) (by decide +kernel)
  | 8, _ => exact ev_aw_of 597 (by decide +kernel) (by decide +kernel)
  | 9, _ => exact ev_aw_of 599 (by decide +kernel) (by decide +kernel)
  | 10, _ => exact ev_aw_of 601 (by decide +kernel) (by decide +kernel)
  | 11, _ => exact ev_aw_of 603 (by decide +kernel) (by decide +kernel)
  | 12, _ => exact ev_aw_of 605 (by decide +kernel) (by decide +kernel)
  | 13, _ => exact ev_aw_of 607 (by decide +kernel) (by decide +kernel)
  | 14, _ => exact ev_aw_of 609 (by decide +kernel) (by decide +kernel)
  | 15, _ => exact ev_aw_of 611 (by decide +kernel) (by decide +kernel)
  | 16, _ => exact ev_aw_of 613 (by decide +kernel) (by decide +kernel)
  | 17, _ => exact ev_aw_of 615 (by decide +kernel) (by decide +kernel)
  | 18, _ => exact ev_aw_of 617 (by decide +kernel) (by decide +kernel)
  | 19, _ => exact ev_aw_of 619 (by decide +kernel) (by decide +kernel)
  | k + 20, h => exact absurd h (by omega)), ⟨tyX5, tyX5_ok⟩, nmX5⟩
theorem fl_X3_9 : ev_F RX3 9 3 0 := ⟨RX3, TX3, 4, cl_3, by decide, Or.inl (ev_aw_of 81 (by decide +kernel) rfl)⟩
theorem fl_X3_15 : ev_F RX3 15 3 1 := ⟨RX3, TX3, 4, cl_3, by decide, Or.inl (ev_aw_of 82 (by decide +kernel) rfl)⟩
theorem fl_X4_56 : ev_F RX4 56 3 1 := ⟨RX3, TX3, 4, cl_3, by decide, Or.inr ⟨"TalkBus", ev_nw_of 83 (by decide +kernel) rfl⟩⟩
theorem fl_X3_19 : ev_F RX3 19 3 2 := ⟨RX3, TX3, 4, cl_3, by decide, Or.inl (ev_aw_of 84 (by decide +kernel) rfl)⟩
theorem fl_X4_169 : ev_F RX4 169 3 2 := ⟨RX3, TX3, 4, cl_3, by decide, Or.inr ⟨"TalkBus", ev_nw_of 85 (by decide +kernel) rfl⟩⟩
theorem fl_X3_23 : ev_F RX3 23 3 3 := ⟨RX3, TX3, 4, cl_3, by decide, Or.inl (ev_aw_of 86 (by decide +kernel) rfl)⟩
theorem fl_X4_59 : ev_F RX4 59 3 3 := ⟨RX3, TX3, 4, cl_3, by decide, Or.inr ⟨"TalkBus", ev_nw_of 87 (by decide +kernel) rfl⟩⟩
theorem fl_X0_9 : ev_F RX0 9 0 0 := ⟨RX0, TX0, 2, cl_0, by decide, Or.inl (ev_aw_of 112 (by decide +kernel) rfl)⟩
theorem fl_X0_15 : ev_F RX0 15 0 1 := ⟨RX0, TX0, 2, cl_0, by decide, Or.inl (ev_aw_of 113 (by decide +kernel) rfl)⟩
theorem fl_X2_91 : ev_F RX2 91 0 1 := ⟨RX0, TX0, 2, cl_0, by decide, Or.inr ⟨"TalkBus", ev_nw_of 114 (by decide +kernel) rfl⟩⟩
theorem fl_X4_269 : ev_F RX4 269 0 1 := ⟨RX0, TX0, 2, cl_0, by decide, Or.inr ⟨"TalkBus", ev_nw_of 115 (by decide +kernel) rfl⟩⟩
theorem fl_X2_12 : ev_F RX2 12 2 0 := ⟨RX2, TX2, 18, cl_2, by decide, Or.inl (ev_aw_of 121 (by decide +kernel) rfl)⟩
theorem fl_X4_106 : ev_F RX4 106 2 0 := ⟨RX2, TX2, 18, cl_2, by decide, Or.inr ⟨"TalkBus", ev_nw_of 122 (by decide +kernel) rfl⟩⟩
theorem fl_X2_18 : ev_F RX2 18 2 1 := ⟨RX2, TX2, 18, cl_2, by decide, Or.inl (ev_aw_of 123 (by decide +kernel) rfl)⟩
theorem fl_X4_113 : ev_F RX4 113 2 1 := ⟨RX2, TX2, 18, cl_2, by decide, Or.inr ⟨"TalkBus", ev_nw_of 124 (by decide +kernel) rfl⟩⟩
theorem fl_X2_21 : ev_F RX2 21 2 2 := ⟨RX2, TX2, 18, cl_2, by decide, Or.inl (ev_aw_of 125 (by decide +kernel) rfl)⟩
theorem fl_X4_251 : ev_F RX4 251 2 2 := ⟨RX2, TX2, 18, cl_2, by decide, Or.inr ⟨"TalkBus", ev_nw_of 126 (by decide +kernel) rfl⟩⟩
theorem fl_X2_25 : ev_F RX2 25 2 3 := ⟨RX2, TX2, 18, cl_2, by decide, Or.inl (ev_aw_of 127 (by decide +kernel) rfl)⟩
theorem fl_X4_197 : ev_F RX4 197 2 3 := ⟨RX2, TX2, 18, cl_2, by decide, Or.inr ⟨"TalkBus", ev_nw_of 128 (by decide +kernel) rfl⟩⟩
theorem fl_X2_28 : ev_F RX2 28 2 4 := ⟨RX2, TX2, 18, cl_2, by decide, Or.inl (ev_aw_of 129 (by decide +kernel) rfl)⟩
theorem fl_X4_200 : ev_F RX4 200 2 4 := ⟨RX2, TX2, 18, cl_2, by decide, Or.inr ⟨"TalkBus", ev_nw_of 130 (by decide +kernel) rfl⟩⟩
theorem fl_X2_31 : ev_F RX2 31 2 5 := ⟨RX2, TX2, 18, cl_2, by decide, Or.inl (ev_aw_of 131 (by decide +kernel) rfl)⟩
theorem fl_X4_144 : ev_F RX4 144 2 5 := ⟨RX2, TX2, 18, cl_2, by decide, Or.inr ⟨"TalkBus", ev_nw_of 132 (by decide +kernel) rfl⟩⟩
theorem fl_X2_34 : ev_F RX2 34 2 6 := ⟨RX2, TX2, 18, cl_2, by decide, Or.inl (ev_aw_of 133 (by decide +kernel) rfl)⟩
theorem fl_X4_147 : ev_F RX4 147 2 6 := ⟨RX2, TX2, 18, cl_2, by decide, Or.inr ⟨"TalkBus", ev_nw_of 134 (by decide +kernel) rfl⟩⟩
theorem fl_X2_68 : ev_F RX2 68 2 7 := ⟨RX2, TX2, 18, cl_2, by decide, Or.inl (ev_aw_of 135 (by decide +kernel) rfl)⟩
theorem fl_X4_122 : ev_F RX4 122 2 7 := ⟨RX2, TX2, 18, cl_2, by decide, Or.inr ⟨"TalkBus", ev_nw_of 136 (by decide +kernel) rfl⟩⟩
theorem fl_X2_71 : ev_F RX2 71 2 8 := ⟨RX2, TX2, 18, cl_2, by decide, Or.inl (ev_aw_of 137 (by decide +kernel) rfl)⟩
theorem fl_X4_125 : ev_F RX4 125 2 8 := ⟨RX2, TX2, 18, cl_2, by decide, Or.inr ⟨"TalkBus", ev_nw_of 138 (by decide +kernel) rfl⟩⟩
theorem fl_X2_40 : ev_F RX2 40 2 9 := ⟨RX2, TX2, 18, cl_2, by decide, Or.inl (ev_aw_of 139 (by decide +kernel) rfl)⟩
theorem fl_X4_229 : ev_F RX4 229 2 9 := ⟨RX2, TX2, 18, cl_2, by decide, Or.inr ⟨"TalkBus", ev_nw_of 140 (by decide +kernel) rfl⟩⟩
theorem fl_X2_44 : ev_F RX2 44 2 10 := ⟨RX2, TX2, 18, cl_2, by decide, Or.inl (ev_aw_of 141 (by decide +kernel) rfl)⟩
theorem fl_X4_131 : ev_F RX4 131 2 10 := ⟨RX2, TX2, 18, cl_2, by decide, Or.inr ⟨"TalkBus", ev_nw_of 142 (by decide +kernel) rfl⟩⟩
theorem fl_X2_47 : ev_F RX2 47 2 11 := ⟨RX2, TX2, 18, cl_2, by decide, Or.inl (ev_aw_of 143 (by decide +kernel) rfl)⟩
theorem fl_X4_128 : ev_F RX4 128 2 11 := ⟨RX2, TX2, 18, cl_2, by decide, Or.inr ⟨"TalkBus", ev_nw_of 144 (by decide +kernel) rfl⟩⟩
theorem fl_X2_50 : ev_F RX2 50 2 12 := ⟨RX2, TX2, 18, cl_2, by decide, Or.inl (ev_aw_of 145 (by decide +kernel) rfl)⟩
theorem fl_X4_241 : ev_F RX4 241 2 12 := ⟨RX2, TX2, 18, cl_2, by decide, Or.inr ⟨"TalkBus", ev_nw_of 146 (by decide +kernel) rfl⟩⟩
theorem fl_X2_53 : ev_F RX2 53 2 13 := ⟨RX2, TX2, 18, cl_2, by decide, Or.inl (ev_aw_of 147 (by decide +kernel) rfl)⟩
theorem fl_X4_257 : ev_F RX4 257 2 13 := ⟨RX2, TX2, 18, cl_2, by decide, Or.inr ⟨"TalkBus", ev_nw_of 148 (by decide +kernel) rfl⟩⟩
theorem fl_X2_56 : ev_F RX2 56 2 14 := ⟨RX2, TX2, 18, cl_2, by decide, Or.inl (ev_aw_of 149 (by decide +kernel) rfl)⟩
theorem fl_X4_238 : ev_F RX4 238 2 14 := ⟨RX2, TX2, 18, cl_2, by decide, Or.inr ⟨"TalkBus", ev_nw_of 150 (by decide +kernel) rfl⟩⟩
theorem fl_X2_59 : ev_F RX2 59 2 15 := ⟨RX2, TX2, 18, cl_2, by decide, Or.inl (ev_aw_of 151 (by decide +kernel) rfl)⟩
theorem fl_X4_266 : ev_F RX4 266 2 15 := ⟨RX2, TX2, 18, cl_2, by decide, Or.inr ⟨"TalkBus", ev_nw_of 152 (by decide +kernel) rfl⟩⟩
theorem fl_X2_62 : ev_F RX2 62 2 16 := ⟨RX2, TX2, 18, cl_2, by decide, Or.inl (ev_aw_of 153 (by decide +kernel) rfl)⟩
theorem fl_X2_74 : ev_F RX2 74 2 17 := ⟨RX2, TX2, 18, cl_2, by decide, Or.inl (ev_aw_of 154 (by decide +kernel) rfl)⟩
theorem fl_X1_9 : ev_F RX1 9 1 0 := ⟨RX1, TX1, 5, cl_1, by decide, Or.inl (ev_aw_of 198 (by decide +kernel) rfl)⟩
theorem fl_X1_15 : ev_F RX1 15 1 1 := ⟨RX1, TX1, 5, cl_1, by decide, Or.inl (ev_aw_of 199 (by decide +kernel) rfl)⟩
theorem fl_X1_18 : ev_F RX1 18 1 2 := ⟨RX1, TX1, 5, cl_1, by decide, Or.inl (ev_aw_of 200 (by decide +kernel) rfl)⟩
theorem fl_X1_21 : ev_F RX1 21 1 3 := ⟨RX1, TX1, 5, cl_1, by decide, Or.inl (ev_aw_of 201 (by decide +kernel) rfl)⟩
theorem fl_X4_172 : ev_F RX4 172 1 3 := ⟨RX1, TX1, 5, cl_1, by decide, Or.inr ⟨"TalkBus", ev_nw_of 202 (by decide +kernel) rfl⟩⟩
theorem fl_X1_25 : ev_F RX1 25 1 4 := ⟨RX1, TX1, 5, cl_1, by decide, Or.inl (ev_aw_of 203 (by decide +kernel) rfl)⟩
theorem gs_X4_34 : Cond.fieldLink RX4 34 "TalkBus" (ev_sn 2) "[I" ∈ ev_aw ∨ ∃ host, Cond.fieldLinkNest RX4 34 "TalkBus" (ev_sn 2) "[I" host ∈ ev_nw := Or.inl (ev_aw_of 215 (by decide +kernel) rfl)
theorem fl_X4_10 : ev_F RX4 10 4 0 := ⟨RX4, TX4, 10, cl_4, by decide, Or.inl (ev_aw_of 237 (by decide +kernel) rfl)⟩
theorem fl_X4_18 : ev_F RX4 18 4 1 := ⟨RX4, TX4, 10, cl_4, by decide, Or.inl (ev_aw_of 238 (by decide +kernel) rfl)⟩
theorem fl_X4_26 : ev_F RX4 26 4 2 := ⟨RX4, TX4, 10, cl_4, by decide, Or.inl (ev_aw_of 239 (by decide +kernel) rfl)⟩
theorem fl_X4_30 : ev_F RX4 30 4 3 := ⟨RX4, TX4, 10, cl_4, by decide, Or.inl (ev_aw_of 240 (by decide +kernel) rfl)⟩
theorem fl_X4_63 : ev_F RX4 63 4 4 := ⟨RX4, TX4, 10, cl_4, by decide, Or.inl (ev_aw_of 241 (by decide +kernel) rfl)⟩
theorem fl_X4_70 : ev_F RX4 70 4 5 := ⟨RX4, TX4, 10, cl_4, by decide, Or.inl (ev_aw_of 242 (by decide +kernel) rfl)⟩
theorem fl_X4_79 : ev_F RX4 79 4 6 := ⟨RX4, TX4, 10, cl_4, by decide, Or.inl (ev_aw_of 243 (by decide +kernel) rfl)⟩
theorem fl_X4_89 : ev_F RX4 89 4 7 := ⟨RX4, TX4, 10, cl_4, by decide, Or.inl (ev_aw_of 244 (by decide +kernel) rfl)⟩
theorem fl_X4_183 : ev_F RX4 183 4 8 := ⟨RX4, TX4, 10, cl_4, by decide, Or.inl (ev_aw_of 245 (by decide +kernel) rfl)⟩
theorem fl_X4_98 : ev_F RX4 98 4 9 := ⟨RX4, TX4, 10, cl_4, by decide, Or.inl (ev_aw_of 246 (by decide +kernel) rfl)⟩
theorem gs_X3_45 : Cond.fieldLink RX3 45 "TalkBus" (ev_sn 0) "[I" ∈ ev_aw ∨ ∃ host, Cond.fieldLinkNest RX3 45 "TalkBus" (ev_sn 0) "[I" host ∈ ev_nw := Or.inr ⟨"TalkBus", ev_nw_of 312 (by decide +kernel) rfl⟩
theorem gs_X3_48 : Cond.fieldLink RX3 48 "TalkBus" (ev_sn 1) "[I" ∈ ev_aw ∨ ∃ host, Cond.fieldLinkNest RX3 48 "TalkBus" (ev_sn 1) "[I" host ∈ ev_nw := Or.inr ⟨"TalkBus", ev_nw_of 314 (by decide +kernel) rfl⟩
theorem gs_X4_138 : Cond.fieldLink RX4 138 "TalkBus" (ev_sn 0) "[I" ∈ ev_aw ∨ ∃ host, Cond.fieldLinkNest RX4 138 "TalkBus" (ev_sn 0) "[I" host ∈ ev_nw := Or.inl (ev_aw_of 501 (by decide +kernel) rfl)
theorem gs_X4_141 : Cond.fieldLink RX4 141 "TalkBus" (ev_sn 1) "[I" ∈ ev_aw ∨ ∃ host, Cond.fieldLinkNest RX4 141 "TalkBus" (ev_sn 1) "[I" host ∈ ev_nw := Or.inl (ev_aw_of 502 (by decide +kernel) rfl)
theorem fl_X5_69 : ev_F RX5 69 5 0 := ⟨RX5, TX5, 20, cl_5, by decide, Or.inl (ev_aw_of 561 (by decide +kernel) rfl)⟩
theorem fl_X5_7 : ev_F RX5 7 5 1 := ⟨RX5, TX5, 20, cl_5, by decide, Or.inl (ev_aw_of 562 (by decide +kernel) rfl)⟩
theorem fl_X5_44 : ev_F RX5 44 5 2 := ⟨RX5, TX5, 20, cl_5, by decide, Or.inl (ev_aw_of 563 (by decide +kernel) rfl)⟩
theorem fl_X5_13 : ev_F RX5 13 5 3 := ⟨RX5, TX5, 20, cl_5, by decide, Or.inl (ev_aw_of 564 (by decide +kernel) rfl)⟩
theorem fl_X5_16 : ev_F RX5 16 5 4 := ⟨RX5, TX5, 20, cl_5, by decide, Or.inl (ev_aw_of 565 (by decide +kernel) rfl)⟩
theorem fl_X5_51 : ev_F RX5 51 5 5 := ⟨RX5, TX5, 20, cl_5, by decide, Or.inl (ev_aw_of 566 (by decide +kernel) rfl)⟩
theorem fl_X5_54 : ev_F RX5 54 5 6 := ⟨RX5, TX5, 20, cl_5, by decide, Or.inl (ev_aw_of 567 (by decide +kernel) rfl)⟩
theorem fl_X5_57 : ev_F RX5 57 5 7 := ⟨RX5, TX5, 20, cl_5, by decide, Or.inl (ev_aw_of 568 (by decide +kernel) rfl)⟩
theorem fl_X5_60 : ev_F RX5 60 5 8 := ⟨RX5, TX5, 20, cl_5, by decide, Or.inl (ev_aw_of 569 (by decide +kernel) rfl)⟩
theorem fl_X5_63 : ev_F RX5 63 5 9 := ⟨RX5, TX5, 20, cl_5, by decide, Or.inl (ev_aw_of 570 (by decide +kernel) rfl)⟩
theorem fl_X5_19 : ev_F RX5 19 5 10 := ⟨RX5, TX5, 20, cl_5, by decide, Or.inl (ev_aw_of 571 (by decide +kernel) rfl)⟩
theorem fl_X5_66 : ev_F RX5 66 5 11 := ⟨RX5, TX5, 20, cl_5, by decide, Or.inl (ev_aw_of 572 (by decide +kernel) rfl)⟩
theorem fl_X5_22 : ev_F RX5 22 5 12 := ⟨RX5, TX5, 20, cl_5, by decide, Or.inl (ev_aw_of 573 (by decide +kernel) rfl)⟩
theorem fl_X5_25 : ev_F RX5 25 5 13 := ⟨RX5, TX5, 20, cl_5, by decide, Or.inl (ev_aw_of 574 (by decide +kernel) rfl)⟩
theorem fl_X5_28 : ev_F RX5 28 5 14 := ⟨RX5, TX5, 20, cl_5, by decide, Or.inl (ev_aw_of 575 (by decide +kernel) rfl)⟩
theorem fl_X5_37 : ev_F RX5 37 5 15 := ⟨RX5, TX5, 20, cl_5, by decide, Or.inl (ev_aw_of 576 (by decide +kernel) rfl)⟩
theorem fl_X5_31 : ev_F RX5 31 5 16 := ⟨RX5, TX5, 20, cl_5, by decide, Or.inl (ev_aw_of 577 (by decide +kernel) rfl)⟩
theorem fl_X5_72 : ev_F RX5 72 5 17 := ⟨RX5, TX5, 20, cl_5, by decide, Or.inl (ev_aw_of 578 (by decide +kernel) rfl)⟩
theorem fl_X5_79 : ev_F RX5 79 5 18 := ⟨RX5, TX5, 20, cl_5, by decide, Or.inl (ev_aw_of 579 (by decide +kernel) rfl)⟩
theorem fl_X5_34 : ev_F RX5 34 5 19 := ⟨RX5, TX5, 20, cl_5, by decide, Or.inl (ev_aw_of 580 (by decide +kernel) rfl)⟩
theorem ft_0_1 : ev_Ft 0 1 .int := ⟨RX0, TX0, 2, rfl, rfl, by decide +kernel⟩
theorem ft_1_3 : ev_Ft 1 3 .int := ⟨RX1, TX1, 5, rfl, rfl, by decide +kernel⟩
theorem ft_1_4 : ev_Ft 1 4 .int := ⟨RX1, TX1, 5, rfl, rfl, by decide +kernel⟩
theorem ft_2_2 : ev_Ft 2 2 .int := ⟨RX2, TX2, 18, rfl, rfl, by decide +kernel⟩
theorem ft_2_3 : ev_Ft 2 3 .int := ⟨RX2, TX2, 18, rfl, rfl, by decide +kernel⟩
theorem ft_2_4 : ev_Ft 2 4 .int := ⟨RX2, TX2, 18, rfl, rfl, by decide +kernel⟩
theorem ft_2_5 : ev_Ft 2 5 .int := ⟨RX2, TX2, 18, rfl, rfl, by decide +kernel⟩
theorem ft_2_6 : ev_Ft 2 6 .int := ⟨RX2, TX2, 18, rfl, rfl, by decide +kernel⟩
theorem ft_2_7 : ev_Ft 2 7 .int := ⟨RX2, TX2, 18, rfl, rfl, by decide +kernel⟩
theorem ft_2_8 : ev_Ft 2 8 .boolean := ⟨RX2, TX2, 18, rfl, rfl, by decide +kernel⟩
theorem ft_2_9 : ev_Ft 2 9 .boolean := ⟨RX2, TX2, 18, rfl, rfl, by decide +kernel⟩
theorem ft_2_10 : ev_Ft 2 10 .boolean := ⟨RX2, TX2, 18, rfl, rfl, by decide +kernel⟩
theorem ft_2_11 : ev_Ft 2 11 .boolean := ⟨RX2, TX2, 18, rfl, rfl, by decide +kernel⟩
theorem ft_2_12 : ev_Ft 2 12 .boolean := ⟨RX2, TX2, 18, rfl, rfl, by decide +kernel⟩
theorem ft_2_13 : ev_Ft 2 13 .int := ⟨RX2, TX2, 18, rfl, rfl, by decide +kernel⟩
theorem ft_2_14 : ev_Ft 2 14 .int := ⟨RX2, TX2, 18, rfl, rfl, by decide +kernel⟩
theorem ft_2_15 : ev_Ft 2 15 .int := ⟨RX2, TX2, 18, rfl, rfl, by decide +kernel⟩
theorem ft_2_16 : ev_Ft 2 16 .int := ⟨RX2, TX2, 18, rfl, rfl, by decide +kernel⟩
theorem ft_2_17 : ev_Ft 2 17 .int := ⟨RX2, TX2, 18, rfl, rfl, by decide +kernel⟩
theorem ft_3_2 : ev_Ft 3 2 .int := ⟨RX3, TX3, 4, rfl, rfl, by decide +kernel⟩
theorem ft_3_3 : ev_Ft 3 3 .int := ⟨RX3, TX3, 4, rfl, rfl, by decide +kernel⟩
theorem ft_4_4 : ev_Ft 4 4 .int := ⟨RX4, TX4, 10, rfl, rfl, by decide +kernel⟩
theorem ft_4_5 : ev_Ft 4 5 .int := ⟨RX4, TX4, 10, rfl, rfl, by decide +kernel⟩
theorem ft_4_6 : ev_Ft 4 6 .int := ⟨RX4, TX4, 10, rfl, rfl, by decide +kernel⟩
theorem ft_4_7 : ev_Ft 4 7 .int := ⟨RX4, TX4, 10, rfl, rfl, by decide +kernel⟩
theorem ft_4_8 : ev_Ft 4 8 .int := ⟨RX4, TX4, 10, rfl, rfl, by decide +kernel⟩
theorem ft_4_9 : ev_Ft 4 9 .boolean := ⟨RX4, TX4, 10, rfl, rfl, by decide +kernel⟩
theorem ft_5_0 : ev_Ft 5 0 .int := ⟨RX5, TX5, 20, rfl, rfl, by decide +kernel⟩
theorem ft_5_2 : ev_Ft 5 2 .int := ⟨RX5, TX5, 20, rfl, rfl, by decide +kernel⟩
theorem ft_5_5 : ev_Ft 5 5 .int := ⟨RX5, TX5, 20, rfl, rfl, by decide +kernel⟩
theorem ft_5_6 : ev_Ft 5 6 .int := ⟨RX5, TX5, 20, rfl, rfl, by decide +kernel⟩
theorem ft_5_7 : ev_Ft 5 7 .int := ⟨RX5, TX5, 20, rfl, rfl, by decide +kernel⟩
theorem ft_5_8 : ev_Ft 5 8 .int := ⟨RX5, TX5, 20, rfl, rfl, by decide +kernel⟩
theorem ft_5_9 : ev_Ft 5 9 .int := ⟨RX5, TX5, 20, rfl, rfl, by decide +kernel⟩
theorem ft_5_11 : ev_Ft 5 11 .int := ⟨RX5, TX5, 20, rfl, rfl, by decide +kernel⟩
theorem ft_5_15 : ev_Ft 5 15 .int := ⟨RX5, TX5, 20, rfl, rfl, by decide +kernel⟩
theorem ft_5_17 : ev_Ft 5 17 .int := ⟨RX5, TX5, 20, rfl, rfl, by decide +kernel⟩
theorem ft_5_18 : ev_Ft 5 18 .int := ⟨RX5, TX5, 20, rfl, rfl, by decide +kernel⟩
abbrev jX0_init : ev_I := (yX0_init, cX0_init, 1, none, { frames := 1, cells := 0, slots := 0, locals := 20 })
abbrev jX0_append : ev_I := (yX0_append, cX0_append, 2, some .int, { frames := 0, cells := 0, slots := 0, locals := 0 })
theorem cyX0_append : ev_Yv jX0_append 1 := ⟨ev_aw_of 363 (by decide +kernel) rfl, ev_aw_of 364 (by decide +kernel) rfl, ev_aw_of 63 (by decide +kernel) rfl, ev_aw_of 365 (by decide +kernel) rfl, ⟨by decide +kernel, by decide +kernel, by decide +kernel⟩, by decide, rfl, rfl⟩
abbrev jX0_removeFirst : ev_I := (yX0_removeFirst, cX0_removeFirst, 3, some .int, { frames := 0, cells := 0, slots := 0, locals := 0 })
theorem cyX0_removeFirst : ev_Yv jX0_removeFirst 0 := ⟨ev_aw_of 449 (by decide +kernel) rfl, ev_aw_of 450 (by decide +kernel) rfl, ev_aw_of 63 (by decide +kernel) rfl, ev_aw_of 451 (by decide +kernel) rfl, ⟨by decide +kernel, by decide +kernel, by decide +kernel⟩, by decide, rfl, rfl⟩
abbrev jX0_at : ev_I := (yX0_at, cX0_at, 2, some .int, { frames := 0, cells := 0, slots := 0, locals := 0 })
theorem cyX0_at : ev_Yv jX0_at 1 := ⟨ev_aw_of 520 (by decide +kernel) rfl, ev_aw_of 521 (by decide +kernel) rfl, ev_aw_of 63 (by decide +kernel) rfl, ev_aw_of 522 (by decide +kernel) rfl, ⟨by decide +kernel, by decide +kernel, by decide +kernel⟩, by decide, rfl, rfl⟩
abbrev jX0_empty : ev_I := (yX0_empty, cX0_empty, 1, none, { frames := 0, cells := 0, slots := 0, locals := 0 })
theorem cyX0_empty : ev_Yv jX0_empty 0 := ⟨ev_aw_of 230 (by decide +kernel) rfl, ev_aw_of 231 (by decide +kernel) rfl, ev_aw_of 63 (by decide +kernel) rfl, ev_aw_of 232 (by decide +kernel) rfl, ⟨by decide +kernel, by decide +kernel, by decide +kernel⟩, by decide, rfl, rfl⟩
abbrev jX1_init : ev_I := (yX1_init, cX1_init, 1, none, { frames := 1, cells := 0, slots := 0, locals := 20 })
abbrev jX1_empty : ev_I := (yX1_empty, cX1_empty, 1, none, { frames := 0, cells := 0, slots := 0, locals := 0 })
theorem cyX1_empty : ev_Yv jX1_empty 0 := ⟨ev_aw_of 234 (by decide +kernel) rfl, ev_aw_of 235 (by decide +kernel) rfl, ev_aw_of 64 (by decide +kernel) rfl, ev_aw_of 236 (by decide +kernel) rfl, ⟨by decide +kernel, by decide +kernel, by decide +kernel⟩, by decide, rfl, rfl⟩
abbrev jX1_keep : ev_I := (yX1_keep, cX1_keep, 4, none, { frames := 1, cells := 0, slots := 0, locals := 21 })
theorem cyX1_keep : ev_Yv jX1_keep 3 := ⟨ev_aw_of 337 (by decide +kernel) rfl, ev_aw_of 338 (by decide +kernel) rfl, ev_aw_of 64 (by decide +kernel) rfl, ev_aw_of 339 (by decide +kernel) rfl, ⟨by decide +kernel, by decide +kernel, by decide +kernel⟩, by decide, rfl, rfl⟩
abbrev jX1_tell : ev_I := (yX1_tell, cX1_tell, 4, some .int, { frames := 0, cells := 0, slots := 0, locals := 0 })
theorem cyX1_tell : ev_Yv jX1_tell 2 := ⟨ev_aw_of 544 (by decide +kernel) rfl, ev_aw_of 545 (by decide +kernel) rfl, ev_aw_of 64 (by decide +kernel) rfl, ev_aw_of 546 (by decide +kernel) rfl, ⟨by decide +kernel, by decide +kernel, by decide +kernel⟩, by decide, rfl, rfl⟩
abbrev jX2_init : ev_I := (yX2_init, cX2_init, 1, none, { frames := 2, cells := 0, slots := 0, locals := 40 })
abbrev jX2_begin : ev_I := (yX2_begin, cX2_begin, 3, none, { frames := 2, cells := 0, slots := 0, locals := 40 })
theorem cyX2_begin : ev_Yv jX2_begin 2 := ⟨ev_aw_of 222 (by decide +kernel) rfl, ev_aw_of 223 (by decide +kernel) rfl, ev_aw_of 62 (by decide +kernel) rfl, ev_aw_of 224 (by decide +kernel) rfl, ⟨by decide +kernel, by decide +kernel, by decide +kernel⟩, by decide, rfl, rfl⟩
abbrev jX2_clear : ev_I := (yX2_clear, cX2_clear, 1, none, { frames := 1, cells := 0, slots := 0, locals := 20 })
theorem cyX2_clear : ev_Yv jX2_clear 0 := ⟨ev_aw_of 226 (by decide +kernel) rfl, ev_aw_of 227 (by decide +kernel) rfl, ev_aw_of 62 (by decide +kernel) rfl, ev_aw_of 228 (by decide +kernel) rfl, ⟨by decide +kernel, by decide +kernel, by decide +kernel⟩, by decide, rfl, rfl⟩
abbrev jX2_beginListening : ev_I := (yX2_beginListening, cX2_beginListening, 1, none, { frames := 0, cells := 0, slots := 0, locals := 0 })
theorem cyX2_beginListening : ev_Yv jX2_beginListening 0 := ⟨ev_aw_of 379 (by decide +kernel) rfl, ev_aw_of 380 (by decide +kernel) rfl, ev_aw_of 62 (by decide +kernel) rfl, ev_aw_of 381 (by decide +kernel) rfl, ⟨by decide +kernel, by decide +kernel, by decide +kernel⟩, by decide, rfl, rfl⟩
abbrev jX2_beTriggered : ev_I := (yX2_beTriggered, cX2_beTriggered, 2, none, { frames := 1, cells := 0, slots := 0, locals := 21 })
theorem cyX2_beTriggered : ev_Yv jX2_beTriggered 1 := ⟨ev_aw_of 412 (by decide +kernel) rfl, ev_aw_of 413 (by decide +kernel) rfl, ev_aw_of 62 (by decide +kernel) rfl, ev_aw_of 414 (by decide +kernel) rfl, ⟨by decide +kernel, by decide +kernel, by decide +kernel⟩, by decide, rfl, rfl⟩
abbrev jX2_isDueBy : ev_I := (yX2_isDueBy, cX2_isDueBy, 2, some .boolean, { frames := 0, cells := 0, slots := 0, locals := 0 })
theorem cyX2_isDueBy : ev_Yv jX2_isDueBy 1 := ⟨ev_aw_of 355 (by decide +kernel) rfl, ev_aw_of 356 (by decide +kernel) rfl, ev_aw_of 62 (by decide +kernel) rfl, ev_aw_of 357 (by decide +kernel) rfl, ⟨by decide +kernel, by decide +kernel, by decide +kernel⟩, by decide, rfl, rfl⟩
abbrev jX2_comeReading : ev_I := (yX2_comeReading, cX2_comeReading, 2, none, { frames := 1, cells := 0, slots := 0, locals := 21 })
theorem cyX2_comeReading : ev_Yv jX2_comeReading 0 := ⟨ev_aw_of 359 (by decide +kernel) rfl, ev_aw_of 360 (by decide +kernel) rfl, ev_aw_of 62 (by decide +kernel) rfl, ev_aw_of 361 (by decide +kernel) rfl, ⟨by decide +kernel, by decide +kernel, by decide +kernel⟩, by decide, rfl, rfl⟩
abbrev jX2_pollByte : ev_I := (yX2_pollByte, cX2_pollByte, 1, some .int, { frames := 0, cells := 0, slots := 0, locals := 0 })
theorem cyX2_pollByte : ev_Yv jX2_pollByte 0 := ⟨ev_aw_of 445 (by decide +kernel) rfl, ev_aw_of 446 (by decide +kernel) rfl, ev_aw_of 62 (by decide +kernel) rfl, ev_aw_of 447 (by decide +kernel) rfl, ⟨by decide +kernel, by decide +kernel, by decide +kernel⟩, by decide, rfl, rfl⟩
abbrev jX2_lineBit : ev_I := (yX2_lineBit, cX2_lineBit, 1, some .int, { frames := 1, cells := 0, slots := 0, locals := 20 })
theorem cyX2_lineBit : ev_Yv jX2_lineBit 0 := ⟨ev_aw_of 470 (by decide +kernel) rfl, ev_aw_of 471 (by decide +kernel) rfl, ev_aw_of 62 (by decide +kernel) rfl, ev_aw_of 472 (by decide +kernel) rfl, ⟨by decide +kernel, by decide +kernel, by decide +kernel⟩, by decide, rfl, rfl⟩
abbrev jX2_tellSetting : ev_I := (yX2_tellSetting, cX2_tellSetting, 2, some .int, { frames := 1, cells := 0, slots := 0, locals := 20 })
theorem cyX2_tellSetting : ev_Yv jX2_tellSetting 1 := ⟨ev_aw_of 508 (by decide +kernel) rfl, ev_aw_of 509 (by decide +kernel) rfl, ev_aw_of 62 (by decide +kernel) rfl, ev_aw_of 510 (by decide +kernel) rfl, ⟨by decide +kernel, by decide +kernel, by decide +kernel⟩, by decide, rfl, rfl⟩
abbrev jX2_tellState : ev_I := (yX2_tellState, cX2_tellState, 3, some .int, { frames := 1, cells := 0, slots := 0, locals := 20 })
theorem cyX2_tellState : ev_Yv jX2_tellState 2 := ⟨ev_aw_of 512 (by decide +kernel) rfl, ev_aw_of 513 (by decide +kernel) rfl, ev_aw_of 62 (by decide +kernel) rfl, ev_aw_of 514 (by decide +kernel) rfl, ⟨by decide +kernel, by decide +kernel, by decide +kernel⟩, by decide, rfl, rfl⟩
abbrev jX3_init : ev_I := (yX3_init, cX3_init, 1, none, { frames := 1, cells := 0, slots := 0, locals := 20 })
abbrev jX3_append : ev_I := (yX3_append, cX3_append, 2, some .int, { frames := 0, cells := 0, slots := 0, locals := 0 })
theorem cyX3_append : ev_Yv jX3_append 1 := ⟨ev_aw_of 273 (by decide +kernel) rfl, ev_aw_of 274 (by decide +kernel) rfl, ev_aw_of 61 (by decide +kernel) rfl, ev_aw_of 275 (by decide +kernel) rfl, ⟨by decide +kernel, by decide +kernel, by decide +kernel⟩, by decide, rfl, rfl⟩
abbrev jX3_empty : ev_I := (yX3_empty, cX3_empty, 2, some .int, { frames := 0, cells := 0, slots := 0, locals := 0 })
theorem cyX3_empty : ev_Yv jX3_empty 0 := ⟨ev_aw_of 281 (by decide +kernel) rfl, ev_aw_of 282 (by decide +kernel) rfl, ev_aw_of 61 (by decide +kernel) rfl, ev_aw_of 283 (by decide +kernel) rfl, ⟨by decide +kernel, by decide +kernel, by decide +kernel⟩, by decide, rfl, rfl⟩
abbrev jX3_firstFault : ev_I := (yX3_firstFault, cX3_firstFault, 4, some .int, { frames := 4, cells := 0, slots := 0, locals := 90 })
theorem cyX3_firstFault : ev_Yv jX3_firstFault 0 := ⟨ev_aw_of 289 (by decide +kernel) rfl, ev_aw_of 290 (by decide +kernel) rfl, ev_aw_of 61 (by decide +kernel) rfl, ev_aw_of 291 (by decide +kernel) rfl, ⟨by decide +kernel, by decide +kernel, by decide +kernel⟩, by decide, rfl, rfl⟩
abbrev jX3_beginsWithHost : ev_I := (yX3_beginsWithHost, cX3_beginsWithHost, 1, some .boolean, { frames := 0, cells := 0, slots := 0, locals := 0 })
theorem cyX3_beginsWithHost : ev_Yv jX3_beginsWithHost 0 := ⟨ev_aw_of 325 (by decide +kernel) rfl, ev_aw_of 326 (by decide +kernel) rfl, ev_aw_of 61 (by decide +kernel) rfl, ev_aw_of 327 (by decide +kernel) rfl, ⟨by decide +kernel, by decide +kernel, by decide +kernel⟩, by decide, rfl, rfl⟩
abbrev jX3_readItem : ev_I := (yX3_readItem, cX3_readItem, 7, some .int, { frames := 3, cells := 0, slots := 0, locals := 64 })
theorem cyX3_readItem : ev_Yv jX3_readItem 2 := ⟨ev_aw_of 294 (by decide +kernel) rfl, ev_aw_of 1 (by decide +kernel) rfl, ev_aw_of 61 (by decide +kernel) rfl, ev_aw_of 295 (by decide +kernel) rfl, ⟨by decide +kernel, by decide +kernel, by decide +kernel⟩, by decide, rfl, rfl⟩
abbrev jX3_letterAt : ev_I := (yX3_letterAt, cX3_letterAt, 2, some .char, { frames := 0, cells := 0, slots := 0, locals := 0 })
theorem cyX3_letterAt : ev_Yv jX3_letterAt 1 := ⟨ev_aw_of 298 (by decide +kernel) rfl, ev_aw_of 2 (by decide +kernel) rfl, ev_aw_of 61 (by decide +kernel) rfl, ev_aw_of 299 (by decide +kernel) rfl, ⟨by decide +kernel, by decide +kernel, by decide +kernel⟩, by decide, rfl, rfl⟩
abbrev jX3_isFigure : ev_I := (yX3_isFigure, cX3_isFigure, 3, some .boolean, { frames := 1, cells := 0, slots := 0, locals := 21 })
theorem cyX3_isFigure : ev_Yv jX3_isFigure 1 := ⟨ev_aw_of 306 (by decide +kernel) rfl, ev_aw_of 4 (by decide +kernel) rfl, ev_aw_of 61 (by decide +kernel) rfl, ev_aw_of 307 (by decide +kernel) rfl, ⟨by decide +kernel, by decide +kernel, by decide +kernel⟩, by decide, rfl, rfl⟩
abbrev jX3_figuresAt : ev_I := (yX3_figuresAt, cX3_figuresAt, 2, some .int, { frames := 2, cells := 0, slots := 0, locals := 43 })
theorem cyX3_figuresAt : ev_Yv jX3_figuresAt 1 := ⟨ev_aw_of 302 (by decide +kernel) rfl, ev_aw_of 3 (by decide +kernel) rfl, ev_aw_of 61 (by decide +kernel) rfl, ev_aw_of 303 (by decide +kernel) rfl, ⟨by decide +kernel, by decide +kernel, by decide +kernel⟩, by decide, rfl, rfl⟩
abbrev jX3_numberAt : ev_I := (yX3_numberAt, cX3_numberAt, 5, some .int, { frames := 1, cells := 0, slots := 0, locals := 21 })
theorem cyX3_numberAt : ev_Yv jX3_numberAt 2 := ⟨ev_aw_of 310 (by decide +kernel) rfl, ev_aw_of 5 (by decide +kernel) rfl, ev_aw_of 61 (by decide +kernel) rfl, ev_aw_of 311 (by decide +kernel) rfl, ⟨by decide +kernel, by decide +kernel, by decide +kernel⟩, by decide, rfl, rfl⟩
abbrev jX3_hasTakenAddress : ev_I := (yX3_hasTakenAddress, cX3_hasTakenAddress, 7, some .boolean, { frames := 0, cells := 0, slots := 0, locals := 0 })
theorem cyX3_hasTakenAddress : ev_Yv jX3_hasTakenAddress 1 := ⟨ev_aw_of 318 (by decide +kernel) rfl, ev_aw_of 6 (by decide +kernel) rfl, ev_aw_of 61 (by decide +kernel) rfl, ev_aw_of 319 (by decide +kernel) rfl, ⟨by decide +kernel, by decide +kernel, by decide +kernel⟩, by decide, rfl, rfl⟩
abbrev jX4_init : ev_I := (yX4_init, cX4_init, 2, none, { frames := 4, cells := 0, slots := 0, locals := 85 })
abbrev jX4_write : ev_I := (yX4_write, cX4_write, 2, some .int, { frames := 1, cells := 0, slots := 0, locals := 21 })
theorem cyX4_write : ev_Yv jX4_write 1 := ⟨ev_aw_of 269 (by decide +kernel) rfl, ev_aw_of 270 (by decide +kernel) rfl, ev_aw_of 60 (by decide +kernel) rfl, ev_aw_of 271 (by decide +kernel) rfl, ⟨by decide +kernel, by decide +kernel, by decide +kernel⟩, by decide, rfl, rfl⟩
abbrev jX4_wipe : ev_I := (yX4_wipe, cX4_wipe, 1, some .int, { frames := 1, cells := 0, slots := 0, locals := 21 })
theorem cyX4_wipe : ev_Yv jX4_wipe 0 := ⟨ev_aw_of 277 (by decide +kernel) rfl, ev_aw_of 278 (by decide +kernel) rfl, ev_aw_of 60 (by decide +kernel) rfl, ev_aw_of 279 (by decide +kernel) rfl, ⟨by decide +kernel, by decide +kernel, by decide +kernel⟩, by decide, rfl, rfl⟩
abbrev jX4_fault : ev_I := (yX4_fault, cX4_fault, 1, some .int, { frames := 5, cells := 0, slots := 0, locals := 113 })
theorem cyX4_fault : ev_Yv jX4_fault 0 := ⟨ev_aw_of 285 (by decide +kernel) rfl, ev_aw_of 286 (by decide +kernel) rfl, ev_aw_of 60 (by decide +kernel) rfl, ev_aw_of 287 (by decide +kernel) rfl, ⟨by decide +kernel, by decide +kernel, by decide +kernel⟩, by decide, rfl, rfl⟩
abbrev jX4_lay : ev_I := (yX4_lay, cX4_lay, 1, some .int, { frames := 5, cells := 0, slots := 0, locals := 113 })
theorem cyX4_lay : ev_Yv jX4_lay 0 := ⟨ev_aw_of 321 (by decide +kernel) rfl, ev_aw_of 322 (by decide +kernel) rfl, ev_aw_of 60 (by decide +kernel) rfl, ev_aw_of 323 (by decide +kernel) rfl, ⟨by decide +kernel, by decide +kernel, by decide +kernel⟩, by decide, rfl, rfl⟩
abbrev jX4_command : ev_I := (yX4_command, cX4_command, 2, some .int, { frames := 6, cells := 0, slots := 0, locals := 128 })
theorem cyX4_command : ev_Yv jX4_command 1 := ⟨ev_aw_of 329 (by decide +kernel) rfl, ev_aw_of 330 (by decide +kernel) rfl, ev_aw_of 60 (by decide +kernel) rfl, ev_aw_of 331 (by decide +kernel) rfl, ⟨by decide +kernel, by decide +kernel, by decide +kernel⟩, by decide, rfl, rfl⟩
abbrev jX4_give : ev_I := (yX4_give, cX4_give, 1, some .int, { frames := 4, cells := 0, slots := 0, locals := 87 })
theorem cyX4_give : ev_Yv jX4_give 0 := ⟨ev_aw_of 429 (by decide +kernel) rfl, ev_aw_of 430 (by decide +kernel) rfl, ev_aw_of 60 (by decide +kernel) rfl, ev_aw_of 431 (by decide +kernel) rfl, ⟨by decide +kernel, by decide +kernel, by decide +kernel⟩, by decide, rfl, rfl⟩
abbrev jX4_tick : ev_I := (yX4_tick, cX4_tick, 2, some .int, { frames := 3, cells := 0, slots := 0, locals := 64 })
theorem cyX4_tick : ev_Yv jX4_tick 1 := ⟨ev_aw_of 454 (by decide +kernel) rfl, ev_aw_of 455 (by decide +kernel) rfl, ev_aw_of 60 (by decide +kernel) rfl, ev_aw_of 456 (by decide +kernel) rfl, ⟨by decide +kernel, by decide +kernel, by decide +kernel⟩, by decide, rfl, rfl⟩
abbrev jX4_poll : ev_I := (yX4_poll, cX4_poll, 3, some .int, { frames := 7, cells := 0, slots := 0, locals := 150 })
theorem cyX4_poll : ev_Yv jX4_poll 0 := ⟨ev_aw_of 458 (by decide +kernel) rfl, ev_aw_of 459 (by decide +kernel) rfl, ev_aw_of 60 (by decide +kernel) rfl, ev_aw_of 460 (by decide +kernel) rfl, ⟨by decide +kernel, by decide +kernel, by decide +kernel⟩, by decide, rfl, rfl⟩
abbrev jX4_parallel : ev_I := (yX4_parallel, cX4_parallel, 3, some .int, { frames := 3, cells := 0, slots := 0, locals := 64 })
theorem cyX4_parallel : ev_Yv jX4_parallel 0 := ⟨ev_aw_of 466 (by decide +kernel) rfl, ev_aw_of 467 (by decide +kernel) rfl, ev_aw_of 60 (by decide +kernel) rfl, ev_aw_of 468 (by decide +kernel) rfl, ⟨by decide +kernel, by decide +kernel, by decide +kernel⟩, by decide, rfl, rfl⟩
abbrev jX4_takeBack : ev_I := (yX4_takeBack, cX4_takeBack, 2, some .int, { frames := 1, cells := 0, slots := 0, locals := 21 })
theorem cyX4_takeBack : ev_Yv jX4_takeBack 0 := ⟨ev_aw_of 477 (by decide +kernel) rfl, ev_aw_of 478 (by decide +kernel) rfl, ev_aw_of 60 (by decide +kernel) rfl, ev_aw_of 479 (by decide +kernel) rfl, ⟨by decide +kernel, by decide +kernel, by decide +kernel⟩, by decide, rfl, rfl⟩
abbrev jX4_put : ev_I := (yX4_put, cX4_put, 3, some .int, { frames := 1, cells := 0, slots := 0, locals := 21 })
theorem cyX4_put : ev_Yv jX4_put 2 := ⟨ev_aw_of 481 (by decide +kernel) rfl, ev_aw_of 482 (by decide +kernel) rfl, ev_aw_of 60 (by decide +kernel) rfl, ev_aw_of 483 (by decide +kernel) rfl, ⟨by decide +kernel, by decide +kernel, by decide +kernel⟩, by decide, rfl, rfl⟩
abbrev jX4_take : ev_I := (yX4_take, cX4_take, 2, some .int, { frames := 1, cells := 0, slots := 0, locals := 22 })
theorem cyX4_take : ev_Yv jX4_take 1 := ⟨ev_aw_of 485 (by decide +kernel) rfl, ev_aw_of 486 (by decide +kernel) rfl, ev_aw_of 60 (by decide +kernel) rfl, ev_aw_of 487 (by decide +kernel) rfl, ⟨by decide +kernel, by decide +kernel, by decide +kernel⟩, by decide, rfl, rfl⟩
abbrev jX4_ask : ev_I := (yX4_ask, cX4_ask, 5, some .int, { frames := 1, cells := 0, slots := 0, locals := 21 })
theorem cyX4_ask : ev_Yv jX4_ask 3 := ⟨ev_aw_of 489 (by decide +kernel) rfl, ev_aw_of 490 (by decide +kernel) rfl, ev_aw_of 60 (by decide +kernel) rfl, ev_aw_of 491 (by decide +kernel) rfl, ⟨by decide +kernel, by decide +kernel, by decide +kernel⟩, by decide, rfl, rfl⟩
abbrev jX4_front : ev_I := (yX4_front, cX4_front, 2, some .int, { frames := 1, cells := 0, slots := 0, locals := 21 })
theorem cyX4_front : ev_Yv jX4_front 1 := ⟨ev_aw_of 493 (by decide +kernel) rfl, ev_aw_of 494 (by decide +kernel) rfl, ev_aw_of 60 (by decide +kernel) rfl, ev_aw_of 495 (by decide +kernel) rfl, ⟨by decide +kernel, by decide +kernel, by decide +kernel⟩, by decide, rfl, rfl⟩
abbrev jX4_tune : ev_I := (yX4_tune, cX4_tune, 6, some .int, { frames := 1, cells := 0, slots := 0, locals := 21 })
theorem cyX4_tune : ev_Yv jX4_tune 3 := ⟨ev_aw_of 498 (by decide +kernel) rfl, ev_aw_of 499 (by decide +kernel) rfl, ev_aw_of 60 (by decide +kernel) rfl, ev_aw_of 500 (by decide +kernel) rfl, ⟨by decide +kernel, by decide +kernel, by decide +kernel⟩, by decide, rfl, rfl⟩
abbrev jX4_device : ev_I := (yX4_device, cX4_device, 3, some .int, { frames := 2, cells := 0, slots := 0, locals := 42 })
theorem cyX4_device : ev_Yv jX4_device 2 := ⟨ev_aw_of 504 (by decide +kernel) rfl, ev_aw_of 505 (by decide +kernel) rfl, ev_aw_of 60 (by decide +kernel) rfl, ev_aw_of 506 (by decide +kernel) rfl, ⟨by decide +kernel, by decide +kernel, by decide +kernel⟩, by decide, rfl, rfl⟩
abbrev jX4_row : ev_I := (yX4_row, cX4_row, 4, some .int, { frames := 1, cells := 0, slots := 0, locals := 21 })
theorem cyX4_row : ev_Yv jX4_row 3 := ⟨ev_aw_of 516 (by decide +kernel) rfl, ev_aw_of 517 (by decide +kernel) rfl, ev_aw_of 60 (by decide +kernel) rfl, ev_aw_of 518 (by decide +kernel) rfl, ⟨by decide +kernel, by decide +kernel, by decide +kernel⟩, by decide, rfl, rfl⟩
abbrev jX4_bus : ev_I := (yX4_bus, cX4_bus, 2, some .int, { frames := 2, cells := 0, slots := 0, locals := 43 })
theorem cyX4_bus : ev_Yv jX4_bus 1 := ⟨ev_aw_of 524 (by decide +kernel) rfl, ev_aw_of 525 (by decide +kernel) rfl, ev_aw_of 60 (by decide +kernel) rfl, ev_aw_of 526 (by decide +kernel) rfl, ⟨by decide +kernel, by decide +kernel, by decide +kernel⟩, by decide, rfl, rfl⟩
abbrev jX4_sum : ev_I := (yX4_sum, cX4_sum, 2, some .int, { frames := 0, cells := 0, slots := 0, locals := 0 })
theorem cyX4_sum : ev_Yv jX4_sum 1 := ⟨ev_aw_of 536 (by decide +kernel) rfl, ev_aw_of 537 (by decide +kernel) rfl, ev_aw_of 60 (by decide +kernel) rfl, ev_aw_of 538 (by decide +kernel) rfl, ⟨by decide +kernel, by decide +kernel, by decide +kernel⟩, by decide, rfl, rfl⟩
abbrev jX4_log : ev_I := (yX4_log, cX4_log, 3, some .int, { frames := 1, cells := 0, slots := 0, locals := 23 })
theorem cyX4_log : ev_Yv jX4_log 2 := ⟨ev_aw_of 540 (by decide +kernel) rfl, ev_aw_of 541 (by decide +kernel) rfl, ev_aw_of 60 (by decide +kernel) rfl, ev_aw_of 542 (by decide +kernel) rfl, ⟨by decide +kernel, by decide +kernel, by decide +kernel⟩, by decide, rfl, rfl⟩
abbrev jX4_beginWith : ev_I := (yX4_beginWith, cX4_beginWith, 4, none, { frames := 3, cells := 0, slots := 0, locals := 62 })
theorem cyX4_beginWith : ev_Yv jX4_beginWith 2 := ⟨ev_aw_of 219 (by decide +kernel) rfl, ev_aw_of 0 (by decide +kernel) rfl, ev_aw_of 60 (by decide +kernel) rfl, ev_aw_of 220 (by decide +kernel) rfl, ⟨by decide +kernel, by decide +kernel, by decide +kernel⟩, by decide, rfl, rfl⟩
abbrev jX4_isDevice : ev_I := (yX4_isDevice, cX4_isDevice, 2, some .boolean, { frames := 0, cells := 0, slots := 0, locals := 0 })
theorem cyX4_isDevice : ev_Yv jX4_isDevice 1 := ⟨ev_aw_of 396 (by decide +kernel) rfl, ev_aw_of 16 (by decide +kernel) rfl, ev_aw_of 60 (by decide +kernel) rfl, ev_aw_of 397 (by decide +kernel) rfl, ⟨by decide +kernel, by decide +kernel, by decide +kernel⟩, by decide, rfl, rfl⟩
abbrev jX4_bit : ev_I := (yX4_bit, cX4_bit, 1, some .int, { frames := 0, cells := 0, slots := 0, locals := 0 })
theorem cyX4_bit : ev_Ys jX4_bit 1 := ⟨ev_aw_of 474 (by decide +kernel) rfl, ev_aw_of 60 (by decide +kernel) rfl, ev_aw_of 475 (by decide +kernel) rfl, ⟨by decide +kernel, by decide +kernel, by decide +kernel⟩, by decide, rfl, rfl⟩
abbrev jX4_passTicks : ev_I := (yX4_passTicks, cX4_passTicks, 3, none, { frames := 2, cells := 0, slots := 0, locals := 42 })
theorem cyX4_passTicks : ev_Yv jX4_passTicks 1 := ⟨ev_aw_of 352 (by decide +kernel) rfl, ev_aw_of 9 (by decide +kernel) rfl, ev_aw_of 60 (by decide +kernel) rfl, ev_aw_of 353 (by decide +kernel) rfl, ⟨by decide +kernel, by decide +kernel, by decide +kernel⟩, by decide, rfl, rfl⟩
abbrev jX4_greatestPace : ev_I := (yX4_greatestPace, cX4_greatestPace, 3, some .int, { frames := 1, cells := 0, slots := 0, locals := 21 })
theorem cyX4_greatestPace : ev_Yv jX4_greatestPace 0 := ⟨ev_aw_of 345 (by decide +kernel) rfl, ev_aw_of 8 (by decide +kernel) rfl, ev_aw_of 60 (by decide +kernel) rfl, ev_aw_of 346 (by decide +kernel) rfl, ⟨by decide +kernel, by decide +kernel, by decide +kernel⟩, by decide, rfl, rfl⟩
abbrev jX4_sendAddress : ev_I := (yX4_sendAddress, cX4_sendAddress, 3, none, { frames := 6, cells := 0, slots := 0, locals := 128 })
theorem cyX4_sendAddress : ev_Yv jX4_sendAddress 2 := ⟨ev_aw_of 463 (by decide +kernel) rfl, ev_aw_of 26 (by decide +kernel) rfl, ev_aw_of 60 (by decide +kernel) rfl, ev_aw_of 464 (by decide +kernel) rfl, ⟨by decide +kernel, by decide +kernel, by decide +kernel⟩, by decide, rfl, rfl⟩
abbrev jX4_send : ev_I := (yX4_send, cX4_send, 2, none, { frames := 5, cells := 0, slots := 0, locals := 107 })
theorem cyX4_send : ev_Yv jX4_send 1 := ⟨ev_aw_of 334 (by decide +kernel) rfl, ev_aw_of 7 (by decide +kernel) rfl, ev_aw_of 60 (by decide +kernel) rfl, ev_aw_of 335 (by decide +kernel) rfl, ⟨by decide +kernel, by decide +kernel, by decide +kernel⟩, by decide, rfl, rfl⟩
abbrev jX4_obeyPlain : ev_I := (yX4_obeyPlain, cX4_obeyPlain, 3, none, { frames := 4, cells := 0, slots := 0, locals := 85 })
theorem cyX4_obeyPlain : ev_Yv jX4_obeyPlain 1 := ⟨ev_aw_of 388 (by decide +kernel) rfl, ev_aw_of 14 (by decide +kernel) rfl, ev_aw_of 60 (by decide +kernel) rfl, ev_aw_of 389 (by decide +kernel) rfl, ⟨by decide +kernel, by decide +kernel, by decide +kernel⟩, by decide, rfl, rfl⟩
abbrev jX4_obeyAsOneOfAll : ev_I := (yX4_obeyAsOneOfAll, cX4_obeyAsOneOfAll, 3, none, { frames := 2, cells := 0, slots := 0, locals := 40 })
theorem cyX4_obeyAsOneOfAll : ev_Yv jX4_obeyAsOneOfAll 2 := ⟨ev_aw_of 400 (by decide +kernel) rfl, ev_aw_of 17 (by decide +kernel) rfl, ev_aw_of 60 (by decide +kernel) rfl, ev_aw_of 401 (by decide +kernel) rfl, ⟨by decide +kernel, by decide +kernel, by decide +kernel⟩, by decide, rfl, rfl⟩
abbrev jX4_obeyAsListener : ev_I := (yX4_obeyAsListener, cX4_obeyAsListener, 3, none, { frames := 3, cells := 0, slots := 0, locals := 63 })
theorem cyX4_obeyAsListener : ev_Yv jX4_obeyAsListener 2 := ⟨ev_aw_of 405 (by decide +kernel) rfl, ev_aw_of 18 (by decide +kernel) rfl, ev_aw_of 60 (by decide +kernel) rfl, ev_aw_of 406 (by decide +kernel) rfl, ⟨by decide +kernel, by decide +kernel, by decide +kernel⟩, by decide, rfl, rfl⟩
abbrev jX4_triggerOne : ev_I := (yX4_triggerOne, cX4_triggerOne, 2, none, { frames := 2, cells := 0, slots := 0, locals := 42 })
theorem cyX4_triggerOne : ev_Yv jX4_triggerOne 1 := ⟨ev_aw_of 409 (by decide +kernel) rfl, ev_aw_of 19 (by decide +kernel) rfl, ev_aw_of 60 (by decide +kernel) rfl, ev_aw_of 410 (by decide +kernel) rfl, ⟨by decide +kernel, by decide +kernel, by decide +kernel⟩, by decide, rfl, rfl⟩
abbrev jX4_passCharge : ev_I := (yX4_passCharge, cX4_passCharge, 1, none, { frames := 1, cells := 0, slots := 0, locals := 21 })
theorem cyX4_passCharge : ev_Yv jX4_passCharge 0 := ⟨ev_aw_of 392 (by decide +kernel) rfl, ev_aw_of 15 (by decide +kernel) rfl, ev_aw_of 60 (by decide +kernel) rfl, ev_aw_of 393 (by decide +kernel) rfl, ⟨by decide +kernel, by decide +kernel, by decide +kernel⟩, by decide, rfl, rfl⟩
abbrev jX4_callListener : ev_I := (yX4_callListener, cX4_callListener, 3, none, { frames := 1, cells := 0, slots := 0, locals := 20 })
theorem cyX4_callListener : ev_Yv jX4_callListener 1 := ⟨ev_aw_of 418 (by decide +kernel) rfl, ev_aw_of 20 (by decide +kernel) rfl, ev_aw_of 60 (by decide +kernel) rfl, ev_aw_of 419 (by decide +kernel) rfl, ⟨by decide +kernel, by decide +kernel, by decide +kernel⟩, by decide, rfl, rfl⟩
abbrev jX4_callTalker : ev_I := (yX4_callTalker, cX4_callTalker, 3, none, { frames := 0, cells := 0, slots := 0, locals := 0 })
theorem cyX4_callTalker : ev_Yv jX4_callTalker 1 := ⟨ev_aw_of 426 (by decide +kernel) rfl, ev_aw_of 22 (by decide +kernel) rfl, ev_aw_of 60 (by decide +kernel) rfl, ev_aw_of 427 (by decide +kernel) rfl, ⟨by decide +kernel, by decide +kernel, by decide +kernel⟩, by decide, rfl, rfl⟩
abbrev jX4_obeySecond : ev_I := (yX4_obeySecond, cX4_obeySecond, 2, none, { frames := 2, cells := 0, slots := 0, locals := 42 })
theorem cyX4_obeySecond : ev_Yv jX4_obeySecond 1 := ⟨ev_aw_of 368 (by decide +kernel) rfl, ev_aw_of 10 (by decide +kernel) rfl, ev_aw_of 60 (by decide +kernel) rfl, ev_aw_of 369 (by decide +kernel) rfl, ⟨by decide +kernel, by decide +kernel, by decide +kernel⟩, by decide, rfl, rfl⟩
abbrev jX4_setLines : ev_I := (yX4_setLines, cX4_setLines, 3, none, { frames := 0, cells := 0, slots := 0, locals := 0 })
theorem cyX4_setLines : ev_Yv jX4_setLines 1 := ⟨ev_aw_of 372 (by decide +kernel) rfl, ev_aw_of 11 (by decide +kernel) rfl, ev_aw_of 60 (by decide +kernel) rfl, ev_aw_of 373 (by decide +kernel) rfl, ⟨by decide +kernel, by decide +kernel, by decide +kernel⟩, by decide, rfl, rfl⟩
abbrev jX4_answerSecond : ev_I := (yX4_answerSecond, cX4_answerSecond, 3, none, { frames := 1, cells := 0, slots := 0, locals := 20 })
theorem cyX4_answerSecond : ev_Yv jX4_answerSecond 1 := ⟨ev_aw_of 376 (by decide +kernel) rfl, ev_aw_of 12 (by decide +kernel) rfl, ev_aw_of 60 (by decide +kernel) rfl, ev_aw_of 377 (by decide +kernel) rfl, ⟨by decide +kernel, by decide +kernel, by decide +kernel⟩, by decide, rfl, rfl⟩
abbrev jX4_endListening : ev_I := (yX4_endListening, cX4_endListening, 2, none, { frames := 0, cells := 0, slots := 0, locals := 0 })
theorem cyX4_endListening : ev_Yv jX4_endListening 0 := ⟨ev_aw_of 422 (by decide +kernel) rfl, ev_aw_of 21 (by decide +kernel) rfl, ev_aw_of 60 (by decide +kernel) rfl, ev_aw_of 423 (by decide +kernel) rfl, ⟨by decide +kernel, by decide +kernel, by decide +kernel⟩, by decide, rfl, rfl⟩
abbrev jX4_endNamedAndPrepared : ev_I := (yX4_endNamedAndPrepared, cX4_endNamedAndPrepared, 2, none, { frames := 0, cells := 0, slots := 0, locals := 0 })
theorem cyX4_endNamedAndPrepared : ev_Yv jX4_endNamedAndPrepared 0 := ⟨ev_aw_of 384 (by decide +kernel) rfl, ev_aw_of 13 (by decide +kernel) rfl, ev_aw_of 60 (by decide +kernel) rfl, ev_aw_of 385 (by decide +kernel) rfl, ⟨by decide +kernel, by decide +kernel, by decide +kernel⟩, by decide, rfl, rfl⟩
abbrev jX4_takesBytes : ev_I := (yX4_takesBytes, cX4_takesBytes, 2, some .boolean, { frames := 0, cells := 0, slots := 0, locals := 0 })
theorem cyX4_takesBytes : ev_Yv jX4_takesBytes 1 := ⟨ev_aw_of 442 (by decide +kernel) rfl, ev_aw_of 25 (by decide +kernel) rfl, ev_aw_of 60 (by decide +kernel) rfl, ev_aw_of 443 (by decide +kernel) rfl, ⟨by decide +kernel, by decide +kernel, by decide +kernel⟩, by decide, rfl, rfl⟩
abbrev jX4_ticksOfNextByte : ev_I := (yX4_ticksOfNextByte, cX4_ticksOfNextByte, 3, some .int, { frames := 1, cells := 0, slots := 0, locals := 21 })
theorem cyX4_ticksOfNextByte : ev_Yv jX4_ticksOfNextByte 0 := ⟨ev_aw_of 438 (by decide +kernel) rfl, ev_aw_of 24 (by decide +kernel) rfl, ev_aw_of 60 (by decide +kernel) rfl, ev_aw_of 439 (by decide +kernel) rfl, ⟨by decide +kernel, by decide +kernel, by decide +kernel⟩, by decide, rfl, rfl⟩
abbrev jX4_giveByte : ev_I := (yX4_giveByte, cX4_giveByte, 4, some .int, { frames := 3, cells := 0, slots := 0, locals := 64 })
theorem cyX4_giveByte : ev_Yv jX4_giveByte 0 := ⟨ev_aw_of 434 (by decide +kernel) rfl, ev_aw_of 23 (by decide +kernel) rfl, ev_aw_of 60 (by decide +kernel) rfl, ev_aw_of 435 (by decide +kernel) rfl, ⟨by decide +kernel, by decide +kernel, by decide +kernel⟩, by decide, rfl, rfl⟩
abbrev jX4_listenerBits : ev_I := (yX4_listenerBits, cX4_listenerBits, 3, some .int, { frames := 0, cells := 0, slots := 0, locals := 0 })
theorem cyX4_listenerBits : ev_Yv jX4_listenerBits 0 := ⟨ev_aw_of 529 (by decide +kernel) rfl, ev_aw_of 27 (by decide +kernel) rfl, ev_aw_of 60 (by decide +kernel) rfl, ev_aw_of 530 (by decide +kernel) rfl, ⟨by decide +kernel, by decide +kernel, by decide +kernel⟩, by decide, rfl, rfl⟩
abbrev jX4_someoneAsks : ev_I := (yX4_someoneAsks, cX4_someoneAsks, 2, some .boolean, { frames := 0, cells := 0, slots := 0, locals := 0 })
theorem cyX4_someoneAsks : ev_Yv jX4_someoneAsks 0 := ⟨ev_aw_of 533 (by decide +kernel) rfl, ev_aw_of 28 (by decide +kernel) rfl, ev_aw_of 60 (by decide +kernel) rfl, ev_aw_of 534 (by decide +kernel) rfl, ⟨by decide +kernel, by decide +kernel, by decide +kernel⟩, by decide, rfl, rfl⟩
abbrev jX5_init : ev_I := (yX5_init, cX5_init, 2, none, { frames := 2, cells := 0, slots := 0, locals := 45 })
abbrev jX5_isIn : ev_I := (yX5_isIn, cX5_isIn, 3, some .boolean, { frames := 0, cells := 0, slots := 0, locals := 0 })
theorem cyX5_isIn : ev_Ys jX5_isIn 3 := ⟨ev_aw_of 654 (by decide +kernel) rfl, ev_aw_of 65 (by decide +kernel) rfl, ev_aw_of 655 (by decide +kernel) rfl, ⟨by decide +kernel, by decide +kernel, by decide +kernel⟩, by decide, rfl, rfl⟩
abbrev jX5_of : ev_I := (yX5_of, cX5_of, 3, some .int, { frames := 0, cells := 0, slots := 0, locals := 0 })
theorem cyX5_of : ev_Yv jX5_of 2 := ⟨ev_aw_of 674 (by decide +kernel) rfl, ev_aw_of 37 (by decide +kernel) rfl, ev_aw_of 65 (by decide +kernel) rfl, ev_aw_of 675 (by decide +kernel) rfl, ⟨by decide +kernel, by decide +kernel, by decide +kernel⟩, by decide, rfl, rfl⟩
abbrev jX5_puts : ev_I := (yX5_puts, cX5_puts, 4, none, { frames := 0, cells := 0, slots := 0, locals := 0 })
theorem cyX5_puts : ev_Yv jX5_puts 3 := ⟨ev_aw_of 559 (by decide +kernel) rfl, ev_aw_of 30 (by decide +kernel) rfl, ev_aw_of 65 (by decide +kernel) rfl, ev_aw_of 560 (by decide +kernel) rfl, ⟨by decide +kernel, by decide +kernel, by decide +kernel⟩, by decide, rfl, rfl⟩
abbrev jX5_begins : ev_I := (yX5_begins, cX5_begins, 3, none, { frames := 1, cells := 0, slots := 0, locals := 23 })
theorem cyX5_begins : ev_Yv jX5_begins 0 := ⟨ev_aw_of 555 (by decide +kernel) rfl, ev_aw_of 29 (by decide +kernel) rfl, ev_aw_of 65 (by decide +kernel) rfl, ev_aw_of 556 (by decide +kernel) rfl, ⟨by decide +kernel, by decide +kernel, by decide +kernel⟩, by decide, rfl, rfl⟩
abbrev jX5_letterAt : ev_I := (yX5_letterAt, cX5_letterAt, 2, some .int, { frames := 0, cells := 0, slots := 0, locals := 0 })
theorem cyX5_letterAt : ev_Yv jX5_letterAt 1 := ⟨ev_aw_of 644 (by decide +kernel) rfl, ev_aw_of 33 (by decide +kernel) rfl, ev_aw_of 65 (by decide +kernel) rfl, ev_aw_of 645 (by decide +kernel) rfl, ⟨by decide +kernel, by decide +kernel, by decide +kernel⟩, by decide, rfl, rfl⟩
abbrev jX5_number : ev_I := (yX5_number, cX5_number, 5, some .boolean, { frames := 1, cells := 0, slots := 0, locals := 22 })
theorem cyX5_number : ev_Yv jX5_number 3 := ⟨ev_aw_of 651 (by decide +kernel) rfl, ev_aw_of 34 (by decide +kernel) rfl, ev_aw_of 65 (by decide +kernel) rfl, ev_aw_of 652 (by decide +kernel) rfl, ⟨by decide +kernel, by decide +kernel, by decide +kernel⟩, by decide, rfl, rfl⟩
abbrev jX5_highest : ev_I := (yX5_highest, cX5_highest, 1, some .int, { frames := 0, cells := 0, slots := 0, locals := 0 })
theorem cyX5_highest : ev_Ys jX5_highest 1 := ⟨ev_aw_of 647 (by decide +kernel) rfl, ev_aw_of 65 (by decide +kernel) rfl, ev_aw_of 648 (by decide +kernel) rfl, ⟨by decide +kernel, by decide +kernel, by decide +kernel⟩, by decide, rfl, rfl⟩
abbrev jX5_readsItem : ev_I := (yX5_readsItem, cX5_readsItem, 6, some .boolean, { frames := 2, cells := 0, slots := 0, locals := 46 })
theorem cyX5_readsItem : ev_Yv jX5_readsItem 1 := ⟨ev_aw_of 640 (by decide +kernel) rfl, ev_aw_of 32 (by decide +kernel) rfl, ev_aw_of 65 (by decide +kernel) rfl, ev_aw_of 641 (by decide +kernel) rfl, ⟨by decide +kernel, by decide +kernel, by decide +kernel⟩, by decide, rfl, rfl⟩
abbrev jX5_reads : ev_I := (yX5_reads, cX5_reads, 2, some .int, { frames := 3, cells := 0, slots := 0, locals := 71 })
theorem cyX5_reads : ev_Yv jX5_reads 0 := ⟨ev_aw_of 636 (by decide +kernel) rfl, ev_aw_of 31 (by decide +kernel) rfl, ev_aw_of 65 (by decide +kernel) rfl, ev_aw_of 637 (by decide +kernel) rfl, ⟨by decide +kernel, by decide +kernel, by decide +kernel⟩, by decide, rfl, rfl⟩
abbrev jX5_write : ev_I := (yX5_write, cX5_write, 2, some .int, { frames := 0, cells := 0, slots := 0, locals := 0 })
theorem cyX5_write : ev_Yv jX5_write 1 := ⟨ev_aw_of 623 (by decide +kernel) rfl, ev_aw_of 624 (by decide +kernel) rfl, ev_aw_of 65 (by decide +kernel) rfl, ev_aw_of 625 (by decide +kernel) rfl, ⟨by decide +kernel, by decide +kernel, by decide +kernel⟩, by decide, rfl, rfl⟩
abbrev jX5_wipe : ev_I := (yX5_wipe, cX5_wipe, 2, some .int, { frames := 0, cells := 0, slots := 0, locals := 0 })
theorem cyX5_wipe : ev_Yv jX5_wipe 0 := ⟨ev_aw_of 627 (by decide +kernel) rfl, ev_aw_of 628 (by decide +kernel) rfl, ev_aw_of 65 (by decide +kernel) rfl, ev_aw_of 629 (by decide +kernel) rfl, ⟨by decide +kernel, by decide +kernel, by decide +kernel⟩, by decide, rfl, rfl⟩
abbrev jX5_fault : ev_I := (yX5_fault, cX5_fault, 1, some .int, { frames := 4, cells := 0, slots := 0, locals := 92 })
theorem cyX5_fault : ev_Yv jX5_fault 0 := ⟨ev_aw_of 631 (by decide +kernel) rfl, ev_aw_of 632 (by decide +kernel) rfl, ev_aw_of 65 (by decide +kernel) rfl, ev_aw_of 633 (by decide +kernel) rfl, ⟨by decide +kernel, by decide +kernel, by decide +kernel⟩, by decide, rfl, rfl⟩
abbrev jX5_lay : ev_I := (yX5_lay, cX5_lay, 1, some .int, { frames := 4, cells := 0, slots := 0, locals := 92 })
theorem cyX5_lay : ev_Yv jX5_lay 0 := ⟨ev_aw_of 657 (by decide +kernel) rfl, ev_aw_of 658 (by decide +kernel) rfl, ev_aw_of 65 (by decide +kernel) rfl, ev_aw_of 659 (by decide +kernel) rfl, ⟨by decide +kernel, by decide +kernel, by decide +kernel⟩, by decide, rfl, rfl⟩
abbrev jX5_comes : ev_I := (yX5_comes, cX5_comes, 3, none, { frames := 1, cells := 0, slots := 0, locals := 23 })
theorem cyX5_comes : ev_Yv jX5_comes 0 := ⟨ev_aw_of 670 (by decide +kernel) rfl, ev_aw_of 36 (by decide +kernel) rfl, ev_aw_of 65 (by decide +kernel) rfl, ev_aw_of 671 (by decide +kernel) rfl, ⟨by decide +kernel, by decide +kernel, by decide +kernel⟩, by decide, rfl, rfl⟩
abbrev jX5_ticks : ev_I := (yX5_ticks, cX5_ticks, 3, none, { frames := 2, cells := 0, slots := 0, locals := 45 })
theorem cyX5_ticks : ev_Yv jX5_ticks 1 := ⟨ev_aw_of 666 (by decide +kernel) rfl, ev_aw_of 35 (by decide +kernel) rfl, ev_aw_of 65 (by decide +kernel) rfl, ev_aw_of 667 (by decide +kernel) rfl, ⟨by decide +kernel, by decide +kernel, by decide +kernel⟩, by decide, rfl, rfl⟩
abbrev jX5_tick : ev_I := (yX5_tick, cX5_tick, 2, some .int, { frames := 3, cells := 0, slots := 0, locals := 67 })
theorem cyX5_tick : ev_Yv jX5_tick 1 := ⟨ev_aw_of 661 (by decide +kernel) rfl, ev_aw_of 662 (by decide +kernel) rfl, ev_aw_of 65 (by decide +kernel) rfl, ev_aw_of 663 (by decide +kernel) rfl, ⟨by decide +kernel, by decide +kernel, by decide +kernel⟩, by decide, rfl, rfl⟩
abbrev jX5_clears : ev_I := (yX5_clears, cX5_clears, 2, none, { frames := 1, cells := 0, slots := 0, locals := 23 })
theorem cyX5_clears : ev_Yv jX5_clears 1 := ⟨ev_aw_of 698 (by decide +kernel) rfl, ev_aw_of 42 (by decide +kernel) rfl, ev_aw_of 65 (by decide +kernel) rfl, ev_aw_of 699 (by decide +kernel) rfl, ⟨by decide +kernel, by decide +kernel, by decide +kernel⟩, by decide, rfl, rfl⟩
abbrev jX5_triggers : ev_I := (yX5_triggers, cX5_triggers, 2, none, { frames := 1, cells := 0, slots := 0, locals := 23 })
theorem cyX5_triggers : ev_Yv jX5_triggers 1 := ⟨ev_aw_of 706 (by decide +kernel) rfl, ev_aw_of 44 (by decide +kernel) rfl, ev_aw_of 65 (by decide +kernel) rfl, ev_aw_of 707 (by decide +kernel) rfl, ⟨by decide +kernel, by decide +kernel, by decide +kernel⟩, by decide, rfl, rfl⟩
abbrev jX5_toListener : ev_I := (yX5_toListener, cX5_toListener, 3, none, { frames := 2, cells := 0, slots := 0, locals := 44 })
theorem cyX5_toListener : ev_Yv jX5_toListener 2 := ⟨ev_aw_of 702 (by decide +kernel) rfl, ev_aw_of 43 (by decide +kernel) rfl, ev_aw_of 65 (by decide +kernel) rfl, ev_aw_of 703 (by decide +kernel) rfl, ⟨by decide +kernel, by decide +kernel, by decide +kernel⟩, by decide, rfl, rfl⟩
abbrev jX5_talker : ev_I := (yX5_talker, cX5_talker, 2, some .int, { frames := 1, cells := 0, slots := 0, locals := 22 })
theorem cyX5_talker : ev_Yv jX5_talker 0 := ⟨ev_aw_of 714 (by decide +kernel) rfl, ev_aw_of 46 (by decide +kernel) rfl, ev_aw_of 65 (by decide +kernel) rfl, ev_aw_of 715 (by decide +kernel) rfl, ⟨by decide +kernel, by decide +kernel, by decide +kernel⟩, by decide, rfl, rfl⟩
abbrev jX5_silences : ev_I := (yX5_silences, cX5_silences, 2, none, { frames := 1, cells := 0, slots := 0, locals := 23 })
theorem cyX5_silences : ev_Yv jX5_silences 0 := ⟨ev_aw_of 730 (by decide +kernel) rfl, ev_aw_of 50 (by decide +kernel) rfl, ev_aw_of 65 (by decide +kernel) rfl, ev_aw_of 731 (by decide +kernel) rfl, ⟨by decide +kernel, by decide +kernel, by decide +kernel⟩, by decide, rfl, rfl⟩
abbrev jX5_passes : ev_I := (yX5_passes, cX5_passes, 2, none, { frames := 2, cells := 0, slots := 0, locals := 43 })
theorem cyX5_passes : ev_Yv jX5_passes 0 := ⟨ev_aw_of 710 (by decide +kernel) rfl, ev_aw_of 45 (by decide +kernel) rfl, ev_aw_of 65 (by decide +kernel) rfl, ev_aw_of 711 (by decide +kernel) rfl, ⟨by decide +kernel, by decide +kernel, by decide +kernel⟩, by decide, rfl, rfl⟩
abbrev jX5_listens : ev_I := (yX5_listens, cX5_listens, 2, none, { frames := 1, cells := 0, slots := 0, locals := 23 })
theorem cyX5_listens : ev_Yv jX5_listens 1 := ⟨ev_aw_of 726 (by decide +kernel) rfl, ev_aw_of 49 (by decide +kernel) rfl, ev_aw_of 65 (by decide +kernel) rfl, ev_aw_of 727 (by decide +kernel) rfl, ⟨by decide +kernel, by decide +kernel, by decide +kernel⟩, by decide, rfl, rfl⟩
abbrev jX5_addresses : ev_I := (yX5_addresses, cX5_addresses, 4, none, { frames := 2, cells := 0, slots := 0, locals := 44 })
theorem cyX5_addresses : ev_Yv jX5_addresses 2 := ⟨ev_aw_of 722 (by decide +kernel) rfl, ev_aw_of 48 (by decide +kernel) rfl, ev_aw_of 65 (by decide +kernel) rfl, ev_aw_of 723 (by decide +kernel) rfl, ⟨by decide +kernel, by decide +kernel, by decide +kernel⟩, by decide, rfl, rfl⟩
abbrev jX5_seconds : ev_I := (yX5_seconds, cX5_seconds, 5, none, { frames := 2, cells := 0, slots := 0, locals := 44 })
theorem cyX5_seconds : ev_Yv jX5_seconds 3 := ⟨ev_aw_of 738 (by decide +kernel) rfl, ev_aw_of 52 (by decide +kernel) rfl, ev_aw_of 65 (by decide +kernel) rfl, ev_aw_of 739 (by decide +kernel) rfl, ⟨by decide +kernel, by decide +kernel, by decide +kernel⟩, by decide, rfl, rfl⟩
abbrev jX5_prepares : ev_I := (yX5_prepares, cX5_prepares, 3, none, { frames := 1, cells := 0, slots := 0, locals := 23 })
theorem cyX5_prepares : ev_Yv jX5_prepares 1 := ⟨ev_aw_of 734 (by decide +kernel) rfl, ev_aw_of 51 (by decide +kernel) rfl, ev_aw_of 65 (by decide +kernel) rfl, ev_aw_of 735 (by decide +kernel) rfl, ⟨by decide +kernel, by decide +kernel, by decide +kernel⟩, by decide, rfl, rfl⟩
abbrev jX5_listeners : ev_I := (yX5_listeners, cX5_listeners, 3, some .int, { frames := 1, cells := 0, slots := 0, locals := 22 })
theorem cyX5_listeners : ev_Yv jX5_listeners 0 := ⟨ev_aw_of 694 (by decide +kernel) rfl, ev_aw_of 41 (by decide +kernel) rfl, ev_aw_of 65 (by decide +kernel) rfl, ev_aw_of 695 (by decide +kernel) rfl, ⟨by decide +kernel, by decide +kernel, by decide +kernel⟩, by decide, rfl, rfl⟩
abbrev jX5_slowest : ev_I := (yX5_slowest, cX5_slowest, 4, some .int, { frames := 1, cells := 0, slots := 0, locals := 22 })
theorem cyX5_slowest : ev_Yv jX5_slowest 1 := ⟨ev_aw_of 690 (by decide +kernel) rfl, ev_aw_of 40 (by decide +kernel) rfl, ev_aw_of 65 (by decide +kernel) rfl, ev_aw_of 691 (by decide +kernel) rfl, ⟨by decide +kernel, by decide +kernel, by decide +kernel⟩, by decide, rfl, rfl⟩
abbrev jX5_logs : ev_I := (yX5_logs, cX5_logs, 3, none, { frames := 0, cells := 0, slots := 0, locals := 0 })
theorem cyX5_logs : ev_Yv jX5_logs 1 := ⟨ev_aw_of 686 (by decide +kernel) rfl, ev_aw_of 39 (by decide +kernel) rfl, ev_aw_of 65 (by decide +kernel) rfl, ev_aw_of 687 (by decide +kernel) rfl, ⟨by decide +kernel, by decide +kernel, by decide +kernel⟩, by decide, rfl, rfl⟩
abbrev jX5_all : ev_I := (yX5_all, cX5_all, 4, none, { frames := 1, cells := 0, slots := 0, locals := 23 })
theorem cyX5_all : ev_Yv jX5_all 2 := ⟨ev_aw_of 718 (by decide +kernel) rfl, ev_aw_of 47 (by decide +kernel) rfl, ev_aw_of 65 (by decide +kernel) rfl, ev_aw_of 719 (by decide +kernel) rfl, ⟨by decide +kernel, by decide +kernel, by decide +kernel⟩, by decide, rfl, rfl⟩
abbrev jX5_sends : ev_I := (yX5_sends, cX5_sends, 6, none, { frames := 3, cells := 0, slots := 0, locals := 68 })
theorem cyX5_sends : ev_Yv jX5_sends 1 := ⟨ev_aw_of 682 (by decide +kernel) rfl, ev_aw_of 38 (by decide +kernel) rfl, ev_aw_of 65 (by decide +kernel) rfl, ev_aw_of 683 (by decide +kernel) rfl, ⟨by decide +kernel, by decide +kernel, by decide +kernel⟩, by decide, rfl, rfl⟩
abbrev jX5_command : ev_I := (yX5_command, cX5_command, 2, some .int, { frames := 4, cells := 0, slots := 0, locals := 93 })
theorem cyX5_command : ev_Yv jX5_command 1 := ⟨ev_aw_of 677 (by decide +kernel) rfl, ev_aw_of 678 (by decide +kernel) rfl, ev_aw_of 65 (by decide +kernel) rfl, ev_aw_of 679 (by decide +kernel) rfl, ⟨by decide +kernel, by decide +kernel, by decide +kernel⟩, by decide, rfl, rfl⟩
abbrev jX5_takers : ev_I := (yX5_takers, cX5_takers, 4, some .int, { frames := 2, cells := 0, slots := 0, locals := 44 })
theorem cyX5_takers : ev_Yv jX5_takers 0 := ⟨ev_aw_of 750 (by decide +kernel) rfl, ev_aw_of 54 (by decide +kernel) rfl, ev_aw_of 65 (by decide +kernel) rfl, ev_aw_of 751 (by decide +kernel) rfl, ⟨by decide +kernel, by decide +kernel, by decide +kernel⟩, by decide, rfl, rfl⟩
abbrev jX5_firstOf : ev_I := (yX5_firstOf, cX5_firstOf, 6, some .int, { frames := 1, cells := 0, slots := 0, locals := 23 })
theorem cyX5_firstOf : ev_Yv jX5_firstOf 3 := ⟨ev_aw_of 754 (by decide +kernel) rfl, ev_aw_of 55 (by decide +kernel) rfl, ev_aw_of 65 (by decide +kernel) rfl, ev_aw_of 755 (by decide +kernel) rfl, ⟨by decide +kernel, by decide +kernel, by decide +kernel⟩, by decide, rfl, rfl⟩
abbrev jX5_gives : ev_I := (yX5_gives, cX5_gives, 5, some .int, { frames := 3, cells := 0, slots := 0, locals := 67 })
theorem cyX5_gives : ev_Yv jX5_gives 0 := ⟨ev_aw_of 746 (by decide +kernel) rfl, ev_aw_of 53 (by decide +kernel) rfl, ev_aw_of 65 (by decide +kernel) rfl, ev_aw_of 747 (by decide +kernel) rfl, ⟨by decide +kernel, by decide +kernel, by decide +kernel⟩, by decide, rfl, rfl⟩
abbrev jX5_give : ev_I := (yX5_give, cX5_give, 1, some .int, { frames := 4, cells := 0, slots := 0, locals := 91 })
theorem cyX5_give : ev_Yv jX5_give 0 := ⟨ev_aw_of 741 (by decide +kernel) rfl, ev_aw_of 742 (by decide +kernel) rfl, ev_aw_of 65 (by decide +kernel) rfl, ev_aw_of 743 (by decide +kernel) rfl, ⟨by decide +kernel, by decide +kernel, by decide +kernel⟩, by decide, rfl, rfl⟩
abbrev jX5_sendsTo : ev_I := (yX5_sendsTo, cX5_sendsTo, 3, none, { frames := 4, cells := 0, slots := 0, locals := 93 })
theorem cyX5_sendsTo : ev_Yv jX5_sendsTo 2 := ⟨ev_aw_of 762 (by decide +kernel) rfl, ev_aw_of 56 (by decide +kernel) rfl, ev_aw_of 65 (by decide +kernel) rfl, ev_aw_of 763 (by decide +kernel) rfl, ⟨by decide +kernel, by decide +kernel, by decide +kernel⟩, by decide, rfl, rfl⟩
abbrev jX5_poll : ev_I := (yX5_poll, cX5_poll, 3, some .int, { frames := 5, cells := 0, slots := 0, locals := 115 })
theorem cyX5_poll : ev_Yv jX5_poll 0 := ⟨ev_aw_of 757 (by decide +kernel) rfl, ev_aw_of 758 (by decide +kernel) rfl, ev_aw_of 65 (by decide +kernel) rfl, ev_aw_of 759 (by decide +kernel) rfl, ⟨by decide +kernel, by decide +kernel, by decide +kernel⟩, by decide, rfl, rfl⟩
abbrev jX5_parallel : ev_I := (yX5_parallel, cX5_parallel, 3, some .int, { frames := 3, cells := 0, slots := 0, locals := 67 })
theorem cyX5_parallel : ev_Yv jX5_parallel 0 := ⟨ev_aw_of 765 (by decide +kernel) rfl, ev_aw_of 766 (by decide +kernel) rfl, ev_aw_of 65 (by decide +kernel) rfl, ev_aw_of 767 (by decide +kernel) rfl, ⟨by decide +kernel, by decide +kernel, by decide +kernel⟩, by decide, rfl, rfl⟩
abbrev jX5_takeBack : ev_I := (yX5_takeBack, cX5_takeBack, 2, some .int, { frames := 2, cells := 0, slots := 0, locals := 46 })
theorem cyX5_takeBack : ev_Yv jX5_takeBack 0 := ⟨ev_aw_of 769 (by decide +kernel) rfl, ev_aw_of 770 (by decide +kernel) rfl, ev_aw_of 65 (by decide +kernel) rfl, ev_aw_of 771 (by decide +kernel) rfl, ⟨by decide +kernel, by decide +kernel, by decide +kernel⟩, by decide, rfl, rfl⟩
abbrev jX5_isDevice : ev_I := (yX5_isDevice, cX5_isDevice, 2, some .boolean, { frames := 1, cells := 0, slots := 0, locals := 22 })
theorem cyX5_isDevice : ev_Yv jX5_isDevice 1 := ⟨ev_aw_of 778 (by decide +kernel) rfl, ev_aw_of 57 (by decide +kernel) rfl, ev_aw_of 65 (by decide +kernel) rfl, ev_aw_of 779 (by decide +kernel) rfl, ⟨by decide +kernel, by decide +kernel, by decide +kernel⟩, by decide, rfl, rfl⟩
abbrev jX5_put : ev_I := (yX5_put, cX5_put, 4, some .int, { frames := 2, cells := 0, slots := 0, locals := 43 })
theorem cyX5_put : ev_Yv jX5_put 2 := ⟨ev_aw_of 773 (by decide +kernel) rfl, ev_aw_of 774 (by decide +kernel) rfl, ev_aw_of 65 (by decide +kernel) rfl, ev_aw_of 775 (by decide +kernel) rfl, ⟨by decide +kernel, by decide +kernel, by decide +kernel⟩, by decide, rfl, rfl⟩
abbrev jX5_take : ev_I := (yX5_take, cX5_take, 2, some .int, { frames := 2, cells := 0, slots := 0, locals := 48 })
theorem cyX5_take : ev_Yv jX5_take 1 := ⟨ev_aw_of 781 (by decide +kernel) rfl, ev_aw_of 782 (by decide +kernel) rfl, ev_aw_of 65 (by decide +kernel) rfl, ev_aw_of 783 (by decide +kernel) rfl, ⟨by decide +kernel, by decide +kernel, by decide +kernel⟩, by decide, rfl, rfl⟩
abbrev jX5_ask : ev_I := (yX5_ask, cX5_ask, 5, some .int, { frames := 2, cells := 0, slots := 0, locals := 43 })
theorem cyX5_ask : ev_Yv jX5_ask 3 := ⟨ev_aw_of 785 (by decide +kernel) rfl, ev_aw_of 786 (by decide +kernel) rfl, ev_aw_of 65 (by decide +kernel) rfl, ev_aw_of 787 (by decide +kernel) rfl, ⟨by decide +kernel, by decide +kernel, by decide +kernel⟩, by decide, rfl, rfl⟩
abbrev jX5_front : ev_I := (yX5_front, cX5_front, 2, some .int, { frames := 2, cells := 0, slots := 0, locals := 43 })
theorem cyX5_front : ev_Yv jX5_front 1 := ⟨ev_aw_of 789 (by decide +kernel) rfl, ev_aw_of 790 (by decide +kernel) rfl, ev_aw_of 65 (by decide +kernel) rfl, ev_aw_of 791 (by decide +kernel) rfl, ⟨by decide +kernel, by decide +kernel, by decide +kernel⟩, by decide, rfl, rfl⟩
abbrev jX5_tune : ev_I := (yX5_tune, cX5_tune, 5, some .int, { frames := 2, cells := 0, slots := 0, locals := 43 })
theorem cyX5_tune : ev_Yv jX5_tune 3 := ⟨ev_aw_of 793 (by decide +kernel) rfl, ev_aw_of 794 (by decide +kernel) rfl, ev_aw_of 65 (by decide +kernel) rfl, ev_aw_of 795 (by decide +kernel) rfl, ⟨by decide +kernel, by decide +kernel, by decide +kernel⟩, by decide, rfl, rfl⟩
abbrev jX5_device : ev_I := (yX5_device, cX5_device, 3, some .int, { frames := 2, cells := 0, slots := 0, locals := 43 })
theorem cyX5_device : ev_Yv jX5_device 2 := ⟨ev_aw_of 797 (by decide +kernel) rfl, ev_aw_of 798 (by decide +kernel) rfl, ev_aw_of 65 (by decide +kernel) rfl, ev_aw_of 799 (by decide +kernel) rfl, ⟨by decide +kernel, by decide +kernel, by decide +kernel⟩, by decide, rfl, rfl⟩
abbrev jX5_row : ev_I := (yX5_row, cX5_row, 4, some .int, { frames := 2, cells := 0, slots := 0, locals := 43 })
theorem cyX5_row : ev_Yv jX5_row 3 := ⟨ev_aw_of 801 (by decide +kernel) rfl, ev_aw_of 802 (by decide +kernel) rfl, ev_aw_of 65 (by decide +kernel) rfl, ev_aw_of 803 (by decide +kernel) rfl, ⟨by decide +kernel, by decide +kernel, by decide +kernel⟩, by decide, rfl, rfl⟩
abbrev jX5_anyAsks : ev_I := (yX5_anyAsks, cX5_anyAsks, 3, some .int, { frames := 1, cells := 0, slots := 0, locals := 22 })
theorem cyX5_anyAsks : ev_Yv jX5_anyAsks 0 := ⟨ev_aw_of 810 (by decide +kernel) rfl, ev_aw_of 58 (by decide +kernel) rfl, ev_aw_of 65 (by decide +kernel) rfl, ev_aw_of 811 (by decide +kernel) rfl, ⟨by decide +kernel, by decide +kernel, by decide +kernel⟩, by decide, rfl, rfl⟩
abbrev jX5_bus : ev_I := (yX5_bus, cX5_bus, 2, some .int, { frames := 3, cells := 0, slots := 0, locals := 67 })
theorem cyX5_bus : ev_Yv jX5_bus 1 := ⟨ev_aw_of 805 (by decide +kernel) rfl, ev_aw_of 806 (by decide +kernel) rfl, ev_aw_of 65 (by decide +kernel) rfl, ev_aw_of 807 (by decide +kernel) rfl, ⟨by decide +kernel, by decide +kernel, by decide +kernel⟩, by decide, rfl, rfl⟩
abbrev jX5_sum : ev_I := (yX5_sum, cX5_sum, 2, some .int, { frames := 1, cells := 0, slots := 0, locals := 22 })
theorem cyX5_sum : ev_Yv jX5_sum 1 := ⟨ev_aw_of 813 (by decide +kernel) rfl, ev_aw_of 814 (by decide +kernel) rfl, ev_aw_of 65 (by decide +kernel) rfl, ev_aw_of 815 (by decide +kernel) rfl, ⟨by decide +kernel, by decide +kernel, by decide +kernel⟩, by decide, rfl, rfl⟩
abbrev jX5_log : ev_I := (yX5_log, cX5_log, 3, some .int, { frames := 1, cells := 0, slots := 0, locals := 22 })
theorem cyX5_log : ev_Yv jX5_log 2 := ⟨ev_aw_of 817 (by decide +kernel) rfl, ev_aw_of 818 (by decide +kernel) rfl, ev_aw_of 65 (by decide +kernel) rfl, ev_aw_of 819 (by decide +kernel) rfl, ⟨by decide +kernel, by decide +kernel, by decide +kernel⟩, by decide, rfl, rfl⟩
theorem ml_X4_37 : Cond.methodLink RX4 37 yX4_beginWith ∈ ev_aw := ev_aw_of 217 (by decide +kernel) rfl
theorem ml_X4_178 : Cond.methodLink RX4 178 yX2_begin ∈ ev_aw := ev_aw_of 221 (by decide +kernel) rfl
theorem ml_X2_37 : Cond.methodLink RX2 37 yX2_clear ∈ ev_aw := ev_aw_of 225 (by decide +kernel) rfl
theorem ml_X2_65 : Cond.methodLink RX2 65 yX0_empty ∈ ev_aw := ev_aw_of 229 (by decide +kernel) rfl
theorem ml_X4_181 : Cond.methodLink RX4 181 yX1_empty ∈ ev_aw := ev_aw_of 233 (by decide +kernel) rfl
theorem ml_X4_41 : Cond.methodLink RX4 41 yX3_append ∈ ev_aw := ev_aw_of 272 (by decide +kernel) rfl
theorem ml_X4_45 : Cond.methodLink RX4 45 yX3_empty ∈ ev_aw := ev_aw_of 280 (by decide +kernel) rfl
theorem ml_X4_49 : Cond.methodLink RX4 49 yX3_firstFault ∈ ev_aw := ev_aw_of 288 (by decide +kernel) rfl
theorem ml_X3_26 : Cond.methodLink RX3 26 yX3_readItem ∈ ev_aw := ev_aw_of 292 (by decide +kernel) rfl
theorem ml_X3_34 : Cond.methodLink RX3 34 yX3_letterAt ∈ ev_aw := ev_aw_of 296 (by decide +kernel) rfl
theorem ml_X3_38 : Cond.methodLink RX3 38 yX3_figuresAt ∈ ev_aw := ev_aw_of 300 (by decide +kernel) rfl
theorem ml_X3_51 : Cond.methodLink RX3 51 yX3_isFigure ∈ ev_aw := ev_aw_of 304 (by decide +kernel) rfl
theorem ml_X3_42 : Cond.methodLink RX3 42 yX3_numberAt ∈ ev_aw := ev_aw_of 308 (by decide +kernel) rfl
theorem ml_X3_30 : Cond.methodLink RX3 30 yX3_hasTakenAddress ∈ ev_aw := ev_aw_of 316 (by decide +kernel) rfl
theorem ml_X4_52 : Cond.methodLink RX4 52 yX3_beginsWithHost ∈ ev_aw := ev_aw_of 324 (by decide +kernel) rfl
theorem ml_X4_66 : Cond.methodLink RX4 66 yX4_send ∈ ev_aw := ev_aw_of 332 (by decide +kernel) rfl
theorem ml_X4_203 : Cond.methodLink RX4 203 yX1_keep ∈ ev_aw := ev_aw_of 336 (by decide +kernel) rfl
theorem ml_X1_28 : Cond.methodLink RX1 28 Lib.Math.min.name ∈ ev_aw := ev_aw_of 340 (by decide +kernel) rfl
theorem ml_X4_207 : Cond.methodLink RX4 207 yX4_greatestPace ∈ ev_aw := ev_aw_of 343 (by decide +kernel) rfl
theorem ml_X4_192 : Cond.methodLink RX4 192 Lib.Math.max.name ∈ ev_aw := ev_aw_of 347 (by decide +kernel) rfl
theorem ml_X4_76 : Cond.methodLink RX4 76 yX4_passTicks ∈ ev_aw := ev_aw_of 350 (by decide +kernel) rfl
theorem ml_X4_186 : Cond.methodLink RX4 186 yX2_isDueBy ∈ ev_aw := ev_aw_of 354 (by decide +kernel) rfl
theorem ml_X4_189 : Cond.methodLink RX4 189 yX2_comeReading ∈ ev_aw := ev_aw_of 358 (by decide +kernel) rfl
theorem ml_X2_83 : Cond.methodLink RX2 83 yX0_append ∈ ev_aw := ev_aw_of 362 (by decide +kernel) rfl
theorem ml_X4_210 : Cond.methodLink RX4 210 yX4_obeySecond ∈ ev_aw := ev_aw_of 366 (by decide +kernel) rfl
theorem ml_X4_260 : Cond.methodLink RX4 260 yX4_setLines ∈ ev_aw := ev_aw_of 370 (by decide +kernel) rfl
theorem ml_X4_263 : Cond.methodLink RX4 263 yX4_answerSecond ∈ ev_aw := ev_aw_of 374 (by decide +kernel) rfl
theorem ml_X4_254 : Cond.methodLink RX4 254 yX2_beginListening ∈ ev_aw := ev_aw_of 378 (by decide +kernel) rfl
theorem ml_X4_95 : Cond.methodLink RX4 95 yX4_endNamedAndPrepared ∈ ev_aw := ev_aw_of 382 (by decide +kernel) rfl
theorem ml_X4_213 : Cond.methodLink RX4 213 yX4_obeyPlain ∈ ev_aw := ev_aw_of 386 (by decide +kernel) rfl
theorem ml_X4_222 : Cond.methodLink RX4 222 yX4_passCharge ∈ ev_aw := ev_aw_of 390 (by decide +kernel) rfl
theorem ml_X4_102 : Cond.methodLink RX4 102 yX4_isDevice ∈ ev_aw := ev_aw_of 394 (by decide +kernel) rfl
theorem ml_X4_225 : Cond.methodLink RX4 225 yX4_obeyAsOneOfAll ∈ ev_aw := ev_aw_of 398 (by decide +kernel) rfl
theorem ml_X4_235 : Cond.methodLink RX4 235 yX2_clear ∈ ev_aw := ev_aw_of 402 (by decide +kernel) rfl
theorem ml_X4_232 : Cond.methodLink RX4 232 yX4_obeyAsListener ∈ ev_aw := ev_aw_of 403 (by decide +kernel) rfl
theorem ml_X4_244 : Cond.methodLink RX4 244 yX4_triggerOne ∈ ev_aw := ev_aw_of 407 (by decide +kernel) rfl
theorem ml_X4_248 : Cond.methodLink RX4 248 yX2_beTriggered ∈ ev_aw := ev_aw_of 411 (by decide +kernel) rfl
theorem ml_X2_77 : Cond.methodLink RX2 77 Lib.Math.min.name ∈ ev_aw := ev_aw_of 415 (by decide +kernel) rfl
theorem ml_X4_216 : Cond.methodLink RX4 216 yX4_callListener ∈ ev_aw := ev_aw_of 416 (by decide +kernel) rfl
theorem ml_X4_92 : Cond.methodLink RX4 92 yX4_endListening ∈ ev_aw := ev_aw_of 420 (by decide +kernel) rfl
theorem ml_X4_219 : Cond.methodLink RX4 219 yX4_callTalker ∈ ev_aw := ev_aw_of 424 (by decide +kernel) rfl
theorem ml_X4_73 : Cond.methodLink RX4 73 yX4_giveByte ∈ ev_aw := ev_aw_of 432 (by decide +kernel) rfl
theorem ml_X4_166 : Cond.methodLink RX4 166 yX4_ticksOfNextByte ∈ ev_aw := ev_aw_of 436 (by decide +kernel) rfl
theorem ml_X4_270 : Cond.methodLink RX4 270 yX4_takesBytes ∈ ev_aw := ev_aw_of 440 (by decide +kernel) rfl
theorem ml_X4_119 : Cond.methodLink RX4 119 yX2_pollByte ∈ ev_aw := ev_aw_of 444 (by decide +kernel) rfl
theorem ml_X4_116 : Cond.methodLink RX4 116 yX0_removeFirst ∈ ev_aw := ev_aw_of 448 (by decide +kernel) rfl
theorem ml_X4_110 : Cond.methodLink RX4 110 yX0_append ∈ ev_aw := ev_aw_of 452 (by decide +kernel) rfl
theorem ml_X4_82 : Cond.methodLink RX4 82 yX4_sendAddress ∈ ev_aw := ev_aw_of 461 (by decide +kernel) rfl
theorem ml_X4_86 : Cond.methodLink RX4 86 yX2_lineBit ∈ ev_aw := ev_aw_of 469 (by decide +kernel) rfl
theorem ml_X4_134 : Cond.methodLink RX4 134 yX4_bit ∈ ev_aw := ev_aw_of 496 (by decide +kernel) rfl
theorem ml_X4_150 : Cond.methodLink RX4 150 yX2_tellSetting ∈ ev_aw := ev_aw_of 507 (by decide +kernel) rfl
theorem ml_X4_153 : Cond.methodLink RX4 153 yX2_tellState ∈ ev_aw := ev_aw_of 511 (by decide +kernel) rfl
theorem ml_X4_157 : Cond.methodLink RX4 157 yX0_at ∈ ev_aw := ev_aw_of 519 (by decide +kernel) rfl
theorem ml_X4_160 : Cond.methodLink RX4 160 yX4_listenerBits ∈ ev_aw := ev_aw_of 527 (by decide +kernel) rfl
theorem ml_X4_163 : Cond.methodLink RX4 163 yX4_someoneAsks ∈ ev_aw := ev_aw_of 531 (by decide +kernel) rfl
theorem ml_X4_175 : Cond.methodLink RX4 175 yX1_tell ∈ ev_aw := ev_aw_of 543 (by decide +kernel) rfl
theorem ml_X5_41 : Cond.methodLink RX5 41 yX5_begins ∈ ev_aw := ev_aw_of 553 (by decide +kernel) rfl
theorem ml_X5_47 : Cond.methodLink RX5 47 yX5_puts ∈ ev_aw := ev_aw_of 557 (by decide +kernel) rfl
theorem ml_X5_96 : Cond.methodLink RX5 96 yX5_reads ∈ ev_aw := ev_aw_of 634 (by decide +kernel) rfl
theorem ml_X5_92 : Cond.methodLink RX5 92 yX5_readsItem ∈ ev_aw := ev_aw_of 638 (by decide +kernel) rfl
theorem ml_X5_75 : Cond.methodLink RX5 75 yX5_letterAt ∈ ev_aw := ev_aw_of 642 (by decide +kernel) rfl
theorem ml_X5_86 : Cond.methodLink RX5 86 yX5_highest ∈ ev_aw := ev_aw_of 646 (by decide +kernel) rfl
theorem ml_X5_89 : Cond.methodLink RX5 89 yX5_number ∈ ev_aw := ev_aw_of 649 (by decide +kernel) rfl
theorem ml_X5_82 : Cond.methodLink RX5 82 yX5_isIn ∈ ev_aw := ev_aw_of 653 (by decide +kernel) rfl
theorem ml_X5_107 : Cond.methodLink RX5 107 yX5_ticks ∈ ev_aw := ev_aw_of 664 (by decide +kernel) rfl
theorem ml_X5_104 : Cond.methodLink RX5 104 yX5_comes ∈ ev_aw := ev_aw_of 668 (by decide +kernel) rfl
theorem ml_X5_100 : Cond.methodLink RX5 100 yX5_of ∈ ev_aw := ev_aw_of 672 (by decide +kernel) rfl
theorem ml_X5_154 : Cond.methodLink RX5 154 yX5_sends ∈ ev_aw := ev_aw_of 680 (by decide +kernel) rfl
theorem ml_X5_126 : Cond.methodLink RX5 126 yX5_logs ∈ ev_aw := ev_aw_of 684 (by decide +kernel) rfl
theorem ml_X5_129 : Cond.methodLink RX5 129 yX5_slowest ∈ ev_aw := ev_aw_of 688 (by decide +kernel) rfl
theorem ml_X5_132 : Cond.methodLink RX5 132 yX5_listeners ∈ ev_aw := ev_aw_of 692 (by decide +kernel) rfl
theorem ml_X5_111 : Cond.methodLink RX5 111 yX5_clears ∈ ev_aw := ev_aw_of 696 (by decide +kernel) rfl
theorem ml_X5_135 : Cond.methodLink RX5 135 yX5_toListener ∈ ev_aw := ev_aw_of 700 (by decide +kernel) rfl
theorem ml_X5_114 : Cond.methodLink RX5 114 yX5_triggers ∈ ev_aw := ev_aw_of 704 (by decide +kernel) rfl
theorem ml_X5_139 : Cond.methodLink RX5 139 yX5_passes ∈ ev_aw := ev_aw_of 708 (by decide +kernel) rfl
theorem ml_X5_117 : Cond.methodLink RX5 117 yX5_talker ∈ ev_aw := ev_aw_of 712 (by decide +kernel) rfl
theorem ml_X5_142 : Cond.methodLink RX5 142 yX5_all ∈ ev_aw := ev_aw_of 716 (by decide +kernel) rfl
theorem ml_X5_145 : Cond.methodLink RX5 145 yX5_addresses ∈ ev_aw := ev_aw_of 720 (by decide +kernel) rfl
theorem ml_X5_120 : Cond.methodLink RX5 120 yX5_listens ∈ ev_aw := ev_aw_of 724 (by decide +kernel) rfl
theorem ml_X5_123 : Cond.methodLink RX5 123 yX5_silences ∈ ev_aw := ev_aw_of 728 (by decide +kernel) rfl
theorem ml_X5_148 : Cond.methodLink RX5 148 yX5_prepares ∈ ev_aw := ev_aw_of 732 (by decide +kernel) rfl
theorem ml_X5_151 : Cond.methodLink RX5 151 yX5_seconds ∈ ev_aw := ev_aw_of 736 (by decide +kernel) rfl
theorem ml_X5_164 : Cond.methodLink RX5 164 yX5_gives ∈ ev_aw := ev_aw_of 744 (by decide +kernel) rfl
theorem ml_X5_157 : Cond.methodLink RX5 157 yX5_takers ∈ ev_aw := ev_aw_of 748 (by decide +kernel) rfl
theorem ml_X5_160 : Cond.methodLink RX5 160 yX5_firstOf ∈ ev_aw := ev_aw_of 752 (by decide +kernel) rfl
theorem ml_X5_167 : Cond.methodLink RX5 167 yX5_sendsTo ∈ ev_aw := ev_aw_of 760 (by decide +kernel) rfl
theorem ml_X5_170 : Cond.methodLink RX5 170 yX5_isDevice ∈ ev_aw := ev_aw_of 776 (by decide +kernel) rfl
theorem ml_X5_173 : Cond.methodLink RX5 173 yX5_anyAsks ∈ ev_aw := ev_aw_of 808 (by decide +kernel) rfl
theorem nl_X2_87 : Cond.methodLinkNest RX2 87 yX4_bit "TalkBus" ∈ ev_nw := ev_nw_of 473 (by decide +kernel) rfl
theorem ms_max : Cond.static Lib.Math.max.name ∈ ev_aw := ev_aw_of 348 (by decide +kernel) rfl
theorem mc_max : Cond.code Lib.Math.max.name Lib.Math.max.code 2 (some .int) ∈ ev_aw := ev_aw_of 349 (by decide +kernel) rfl
theorem ms_min : Cond.static Lib.Math.min.name ∈ ev_aw := ev_aw_of 341 (by decide +kernel) rfl
theorem mc_min : Cond.code Lib.Math.min.name Lib.Math.min.code 2 (some .int) ∈ ev_aw := ev_aw_of 342 (by decide +kernel) rfl
theorem mi_math : Cond.initialized "java/lang/Math" ∈ ev_aw := ev_aw_of 66 (by decide +kernel) rfl
def layX : ev_Y := [(0, 10, 0, 4), (20, 4, 0, 3), (30, 5, 0, 1), (40, 8, 1, 0), (50, 6, 3, 0), (60, 30, 1, 0), (100, 16, 1, 0), (120, 16, 1, 0), (140, 16, 1, 0), (200, 200, 2, 0), (500, 5, 4, 0), (510, 5, 4, 1), (520, 30, 4, 2), (1000, 18, 0, 2), (1020, 2, 0, 0), (1030, 12, 1, 0), (1050, 2, 0, 0), (1060, 12, 1, 0), (1100, 18, 0, 2), (1120, 2, 0, 0), (1130, 12, 1, 0), (1150, 2, 0, 0), (1160, 12, 1, 0), (1200, 18, 0, 2), (1220, 2, 0, 0), (1230, 12, 1, 0), (1250, 2, 0, 0), (1260, 12, 1, 0), (1300, 18, 0, 2), (1320, 2, 0, 0), (1330, 12, 1, 0), (1350, 2, 0, 0), (1360, 12, 1, 0), (1400, 18, 0, 2), (1420, 2, 0, 0), (1430, 12, 1, 0), (1450, 2, 0, 0), (1460, 12, 1, 0), (1500, 18, 0, 2), (1520, 2, 0, 0), (1530, 12, 1, 0), (1550, 2, 0, 0), (1560, 12, 1, 0)]
def layM : ev_Y := [(0, 20, 0, 5), (100, 200, 1, 0), (300, 108, 1, 0), (420, 144, 1, 0), (570, 8, 1, 0), (580, 16, 1, 0), (600, 16, 1, 0), (620, 16, 1, 0), (640, 30, 1, 0), (680, 30, 1, 0)]
theorem sep_X : ev_sep layX := by unfold ev_sep layX; decide
theorem sep_M : ev_sep layM := by unfold ev_sep layM; decide
theorem lx_0 : ((0 : Int), 10, 0, 4) ∈ layX := by unfold layX; decide
theorem lx_20 : ((20 : Int), 4, 0, 3) ∈ layX := by unfold layX; decide
theorem lx_30 : ((30 : Int), 5, 0, 1) ∈ layX := by unfold layX; decide
theorem lx_40 : ((40 : Int), 8, 1, 0) ∈ layX := by unfold layX; decide
theorem lx_50 : ((50 : Int), 6, 3, 0) ∈ layX := by unfold layX; decide
theorem lx_60 : ((60 : Int), 30, 1, 0) ∈ layX := by unfold layX; decide
theorem lx_100 : ((100 : Int), 16, 1, 0) ∈ layX := by unfold layX; decide
theorem lx_120 : ((120 : Int), 16, 1, 0) ∈ layX := by unfold layX; decide
theorem lx_140 : ((140 : Int), 16, 1, 0) ∈ layX := by unfold layX; decide
theorem lx_200 : ((200 : Int), 200, 2, 0) ∈ layX := by unfold layX; decide
theorem lx_500 : ((500 : Int), 5, 4, 0) ∈ layX := by unfold layX; decide
theorem lx_510 : ((510 : Int), 5, 4, 1) ∈ layX := by unfold layX; decide
theorem lx_520 : ((520 : Int), 30, 4, 2) ∈ layX := by unfold layX; decide
theorem lm_0 : ((0 : Int), 20, 0, 5) ∈ layM := by unfold layM; decide
theorem lm_100 : ((100 : Int), 200, 1, 0) ∈ layM := by unfold layM; decide
theorem lm_300 : ((300 : Int), 108, 1, 0) ∈ layM := by unfold layM; decide
theorem lm_420 : ((420 : Int), 144, 1, 0) ∈ layM := by unfold layM; decide
theorem lm_570 : ((570 : Int), 8, 1, 0) ∈ layM := by unfold layM; decide
theorem lm_580 : ((580 : Int), 16, 1, 0) ∈ layM := by unfold layM; decide
theorem lm_600 : ((600 : Int), 16, 1, 0) ∈ layM := by unfold layM; decide
theorem lm_620 : ((620 : Int), 16, 1, 0) ∈ layM := by unfold layM; decide
theorem lm_640 : ((640 : Int), 30, 1, 0) ∈ layM := by unfold layM; decide
theorem lm_680 : ((680 : Int), 30, 1, 0) ∈ layM := by unfold layM; decide
theorem lx_dev {i : Int} (h0 : 0 ≤ i) (h1 : i < 6) : (1000 + 100 * i, 18, 0, 2) ∈ layX := by
  rcases (show i = 0 ∨ i = 1 ∨ i = 2 ∨ i = 3 ∨ i = 4 ∨ i = 5 by omega) with rfl | rfl | rfl | rfl | rfl | rfl <;> (unfold layX; decide)
theorem lx_out {i : Int} (h0 : 0 ≤ i) (h1 : i < 6) : (1000 + 100 * i + 20, 2, 0, 0) ∈ layX := by
  rcases (show i = 0 ∨ i = 1 ∨ i = 2 ∨ i = 3 ∨ i = 4 ∨ i = 5 by omega) with rfl | rfl | rfl | rfl | rfl | rfl <;> (unfold layX; decide)
theorem lx_outb {i : Int} (h0 : 0 ≤ i) (h1 : i < 6) : (1000 + 100 * i + 30, 12, 1, 0) ∈ layX := by
  rcases (show i = 0 ∨ i = 1 ∨ i = 2 ∨ i = 3 ∨ i = 4 ∨ i = 5 by omega) with rfl | rfl | rfl | rfl | rfl | rfl <;> (unfold layX; decide)
theorem lx_inn {i : Int} (h0 : 0 ≤ i) (h1 : i < 6) : (1000 + 100 * i + 50, 2, 0, 0) ∈ layX := by
  rcases (show i = 0 ∨ i = 1 ∨ i = 2 ∨ i = 3 ∨ i = 4 ∨ i = 5 by omega) with rfl | rfl | rfl | rfl | rfl | rfl <;> (unfold layX; decide)
theorem lx_innb {i : Int} (h0 : 0 ≤ i) (h1 : i < 6) : (1000 + 100 * i + 60, 12, 1, 0) ∈ layX := by
  rcases (show i = 0 ∨ i = 1 ∨ i = 2 ∨ i = 3 ∨ i = 4 ∨ i = 5 by omega) with rfl | rfl | rfl | rfl | rfl | rfl <;> (unfold layX; decide)
