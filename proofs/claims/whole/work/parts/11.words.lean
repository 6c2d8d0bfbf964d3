/-! the rows at each place of the constant pools: fields, calls, new objects, constants (laid by a program) -/
set_option maxRecDepth 100000 in
theorem zin_X0 : ∀ w ∈ u_ws RX0 TX0 2, w ∈ z_W := by
  intro w hw
  obtain ⟨k, hk, rfl⟩ := List.mem_map.mp hw
  have hk := List.mem_range.mp hk
  match k, hk with
  | 0, _ => exact z_at1 158 (by decide +kernel) (by decide +kernel)
  | 1, _ => exact z_at1 160 (by decide +kernel) (by decide +kernel)
  | k + 2, hk => exact absurd hk (by omega)
set_option maxRecDepth 100000 in
theorem zin_X1 : ∀ w ∈ u_ws RX1 TX1 3, w ∈ z_W := by
  intro w hw
  obtain ⟨k, hk, rfl⟩ := List.mem_map.mp hw
  have hk := List.mem_range.mp hk
  match k, hk with
  | 0, _ => exact z_at1 68 (by decide +kernel) (by decide +kernel)
  | 1, _ => exact z_at1 70 (by decide +kernel) (by decide +kernel)
  | 2, _ => exact z_at1 72 (by decide +kernel) (by decide +kernel)
  | k + 3, hk => exact absurd hk (by omega)
set_option maxRecDepth 100000 in
theorem zin_X3 : ∀ w ∈ u_ws RX3 TX3 10, w ∈ z_W := by
  intro w hw
  obtain ⟨k, hk, rfl⟩ := List.mem_map.mp hw
  have hk := List.mem_range.mp hk
  match k, hk with
  | 0, _ => exact z_at1 407 (by decide +kernel) (by decide +kernel)
  | 1, _ => exact z_at1 409 (by decide +kernel) (by decide +kernel)
  | 2, _ => exact z_at1 411 (by decide +kernel) (by decide +kernel)
  | 3, _ => exact z_at1 413 (by decide +kernel) (by decide +kernel)
  | 4, _ => exact z_at1 415 (by decide +kernel) (by decide +kernel)
  | 5, _ => exact z_at1 417 (by decide +kernel) (by decide +kernel)
  | 6, _ => exact z_at1 419 (by decide +kernel) (by decide +kernel)
  | 7, _ => exact z_at1 421 (by decide +kernel) (by decide +kernel)
  | 8, _ => exact z_at1 423 (by decide +kernel) (by decide +kernel)
  | 9, _ => exact z_at1 425 (by decide +kernel) (by decide +kernel)
  | k + 10, hk => exact absurd hk (by omega)
set_option maxRecDepth 100000 in
theorem zin_X4 : ∀ w ∈ u_ws RX4 TX4 8, w ∈ z_W := by
  intro w hw
  obtain ⟨k, hk, rfl⟩ := List.mem_map.mp hw
  have hk := List.mem_range.mp hk
  match k, hk with
  | 0, _ => exact z_at1 132 (by decide +kernel) (by decide +kernel)
  | 1, _ => exact z_at1 134 (by decide +kernel) (by decide +kernel)
  | 2, _ => exact z_at1 136 (by decide +kernel) (by decide +kernel)
  | 3, _ => exact z_at1 138 (by decide +kernel) (by decide +kernel)
  | 4, _ => exact z_at1 140 (by decide +kernel) (by decide +kernel)
  | 5, _ => exact z_at1 142 (by decide +kernel) (by decide +kernel)
  | 6, _ => exact z_at1 144 (by decide +kernel) (by decide +kernel)
  | 7, _ => exact z_at1 146 (by decide +kernel) (by decide +kernel)
  | k + 8, hk => exact absurd hk (by omega)
set_option maxRecDepth 100000 in
theorem zin_X5 : ∀ w ∈ u_ws RX5 TX5 3, w ∈ z_W := by
  intro w hw
  obtain ⟨k, hk, rfl⟩ := List.mem_map.mp hw
  have hk := List.mem_range.mp hk
  match k, hk with
  | 0, _ => exact z_at1 173 (by decide +kernel) (by decide +kernel)
  | 1, _ => exact z_at1 175 (by decide +kernel) (by decide +kernel)
  | 2, _ => exact z_at1 177 (by decide +kernel) (by decide +kernel)
  | k + 3, hk => exact absurd hk (by omega)
set_option maxRecDepth 100000 in
theorem zin_X6 : ∀ w ∈ u_ws RX6 TX6 8, w ∈ z_W := by
  intro w hw
  obtain ⟨k, hk, rfl⟩ := List.mem_map.mp hw
  have hk := List.mem_range.mp hk
  match k, hk with
  | 0, _ => exact z_at1 89 (by decide +kernel) (by decide +kernel)
  | 1, _ => exact z_at1 91 (by decide +kernel) (by decide +kernel)
  | 2, _ => exact z_at1 93 (by decide +kernel) (by decide +kernel)
  | 3, _ => exact z_at1 95 (by decide +kernel) (by decide +kernel)
  | 4, _ => exact z_at1 97 (by decide +kernel) (by decide +kernel)
  | 5, _ => exact z_at1 99 (by decide +kernel) (by decide +kernel)
  | 6, _ => exact z_at1 101 (by decide +kernel) (by decide +kernel)
  | 7, _ => exact z_at1 103 (by decide +kernel) (by decide +kernel)
  | k + 8, hk => exact absurd hk (by omega)
set_option maxRecDepth 100000 in
theorem zin_X7 : ∀ w ∈ u_ws RX7 TX7 2, w ∈ z_W := by
  intro w hw
  obtain ⟨k, hk, rfl⟩ := List.mem_map.mp hw
  have hk := List.mem_range.mp hk
  match k, hk with
  | 0, _ => exact z_at1 53 (by decide +kernel) (by decide +kernel)
  | 1, _ => exact z_at1 55 (by decide +kernel) (by decide +kernel)
  | k + 2, hk => exact absurd hk (by omega)
set_option maxRecDepth 100000 in
theorem zin_X8 : ∀ w ∈ u_ws RX8 TX8 9, w ∈ z_W := by
  intro w hw
  obtain ⟨k, hk, rfl⟩ := List.mem_map.mp hw
  have hk := List.mem_range.mp hk
  match k, hk with
  | 0, _ => exact z_at1 190 (by decide +kernel) (by decide +kernel)
  | 1, _ => exact z_at1 192 (by decide +kernel) (by decide +kernel)
  | 2, _ => exact z_at1 194 (by decide +kernel) (by decide +kernel)
  | 3, _ => exact z_at1 196 (by decide +kernel) (by decide +kernel)
  | 4, _ => exact z_at1 198 (by decide +kernel) (by decide +kernel)
  | 5, _ => exact z_at1 200 (by decide +kernel) (by decide +kernel)
  | 6, _ => exact z_at1 202 (by decide +kernel) (by decide +kernel)
  | 7, _ => exact z_at1 204 (by decide +kernel) (by decide +kernel)
  | 8, _ => exact z_at1 206 (by decide +kernel) (by decide +kernel)
  | k + 9, hk => exact absurd hk (by omega)
set_option maxRecDepth 100000 in
theorem zin_X9 : ∀ w ∈ u_ws RX9 TX9 28, w ∈ z_W := by
  intro w hw
  obtain ⟨k, hk, rfl⟩ := List.mem_map.mp hw
  have hk := List.mem_range.mp hk
  match k, hk with
  | 0, _ => exact z_at1 952 (by decide +kernel) (by decide +kernel)
  | 1, _ => exact z_at1 954 (by decide +kernel) (by decide +kernel)
  | 2, _ => exact z_at1 956 (by decide +kernel) (by decide +kernel)
  | 3, _ => exact z_at1 958 (by decide +kernel) (by decide +kernel)
  | 4, _ => exact z_at1 960 (by decide +kernel) (by decide +kernel)
  | 5, _ => exact z_at1 962 (by decide +kernel) (by decide +kernel)
  | 6, _ => exact z_at1 964 (by decide +kernel) (by decide +kernel)
  | 7, _ => exact z_at1 966 (by decide +kernel) (by decide +kernel)
  | 8, _ => exact z_at1 968 (by decide +kernel) (by decide +kernel)
  | 9, _ => exact z_at1 970 (by decide +kernel) (by decide +kernel)
  | 10, _ => exact z_at1 972 (by decide +kernel) (by decide +kernel)
  | 11, _ => exact z_at1 974 (by decide +kernel) (by decide +kernel)
  | 12, _ => exact z_at1 976 (by decide +kernel) (by decide +kernel)
  | 13, _ => exact z_at1 978 (by decide +kernel) (by decide +kernel)
  | 14, _ => exact z_at1 980 (by decide +kernel) (by decide +kernel)
  | 15, _ => exact z_at1 982 (by decide +kernel) (by decide +kernel)
  | 16, _ => exact z_at1 984 (by decide +kernel) (by decide +kernel)
  | 17, _ => exact z_at1 986 (by decide +kernel) (by decide +kernel)
  | 18, _ => exact z_at1 988 (by decide +kernel) (by decide +kernel)
  | 19, _ => exact z_at1 990 (by decide +kernel) (by decide +kernel)
  | 20, _ => exact z_at1 992 (by decide +kernel) (by decide +kernel)
  | 21, _ => exact z_at1 994 (by decide +kernel) (by decide +kernel)
  | 22, _ => exact z_at1 996 (by decide +kernel) (by decide +kernel)
  | 23, _ => exact z_at1 998 (by decide +kernel) (by decide +kernel)
  | 24, _ => exact z_at1 1000 (by decide +kernel) (by decide +kernel)
  | 25, _ => exact z_at1 1002 (by decide +kernel) (by decide +kernel)
  | 26, _ => exact z_at1 1004 (by decide +kernel) (by decide +kernel)
  | 27, _ => exact z_at1 1006 (by decide +kernel) (by decide +kernel)
  | k + 28, hk => exact absurd hk (by omega)
abbrev mX8_init : z_M := (yX8_init, cX8_init, 2, none)
set_option maxRecDepth 100000 in
theorem wc_X8_init : Cond.code mX8_init.1 mX8_init.2.1 mX8_init.2.2.1 mX8_init.2.2.2 ∈ z_W := z_at1 22 (by decide +kernel) (by decide +kernel)
set_option maxRecDepth 100000 in
theorem wi_X8 : Cond.initialized RX8 ∈ z_W := z_at1 1 (by decide +kernel) (by decide +kernel)
set_option maxRecDepth 100000 in
theorem wm_X8_init : Cond.instanceMethod yX8_init ∈ z_W := z_at1 21 (by decide +kernel) (by decide +kernel)
abbrev mX6_init : z_M := (yX6_init, cX6_init, 2, none)
set_option maxRecDepth 100000 in
theorem wc_X6_init : Cond.code mX6_init.1 mX6_init.2.1 mX6_init.2.2.1 mX6_init.2.2.2 ∈ z_W := z_at1 30 (by decide +kernel) (by decide +kernel)
set_option maxRecDepth 100000 in
theorem wi_X6 : Cond.initialized RX6 ∈ z_W := z_at1 2 (by decide +kernel) (by decide +kernel)
set_option maxRecDepth 100000 in
theorem wm_X6_init : Cond.instanceMethod yX6_init ∈ z_W := z_at1 29 (by decide +kernel) (by decide +kernel)
abbrev mX1_init : z_M := (yX1_init, cX1_init, 1, none)
set_option maxRecDepth 100000 in
theorem wc_X1_init : Cond.code mX1_init.1 mX1_init.2.1 mX1_init.2.2.1 mX1_init.2.2.2 ∈ z_W := z_at1 39 (by decide +kernel) (by decide +kernel)
set_option maxRecDepth 100000 in
theorem wi_X1 : Cond.initialized RX1 ∈ z_W := z_at1 3 (by decide +kernel) (by decide +kernel)
set_option maxRecDepth 100000 in
theorem wm_X1_init : Cond.instanceMethod yX1_init ∈ z_W := z_at1 38 (by decide +kernel) (by decide +kernel)
abbrev mX7_init : z_M := (yX7_init, cX7_init, 1, none)
set_option maxRecDepth 100000 in
theorem wc_X7_init : Cond.code mX7_init.1 mX7_init.2.1 mX7_init.2.2.1 mX7_init.2.2.2 ∈ z_W := z_at1 45 (by decide +kernel) (by decide +kernel)
set_option maxRecDepth 100000 in
theorem wi_X7 : Cond.initialized RX7 ∈ z_W := z_at1 4 (by decide +kernel) (by decide +kernel)
set_option maxRecDepth 100000 in
theorem wm_X7_init : Cond.instanceMethod yX7_init ∈ z_W := z_at1 44 (by decide +kernel) (by decide +kernel)
abbrev mX4_init : z_M := (yX4_init, cX4_init, 1, none)
set_option maxRecDepth 100000 in
theorem wc_X4_init : Cond.code mX4_init.1 mX4_init.2.1 mX4_init.2.2.1 mX4_init.2.2.2 ∈ z_W := z_at1 112 (by decide +kernel) (by decide +kernel)
set_option maxRecDepth 100000 in
theorem wi_X4 : Cond.initialized RX4 ∈ z_W := z_at1 5 (by decide +kernel) (by decide +kernel)
set_option maxRecDepth 100000 in
theorem wm_X4_init : Cond.instanceMethod yX4_init ∈ z_W := z_at1 111 (by decide +kernel) (by decide +kernel)
abbrev mX0_init : z_M := (yX0_init, cX0_init, 1, none)
set_option maxRecDepth 100000 in
theorem wc_X0_init : Cond.code mX0_init.1 mX0_init.2.1 mX0_init.2.2.1 mX0_init.2.2.2 ∈ z_W := z_at1 153 (by decide +kernel) (by decide +kernel)
set_option maxRecDepth 100000 in
theorem wi_X0 : Cond.initialized RX0 ∈ z_W := z_at1 6 (by decide +kernel) (by decide +kernel)
set_option maxRecDepth 100000 in
theorem wm_X0_init : Cond.instanceMethod yX0_init ∈ z_W := z_at1 152 (by decide +kernel) (by decide +kernel)
abbrev mX5_init : z_M := (yX5_init, cX5_init, 1, none)
set_option maxRecDepth 100000 in
theorem wc_X5_init : Cond.code mX5_init.1 mX5_init.2.1 mX5_init.2.2.1 mX5_init.2.2.2 ∈ z_W := z_at1 166 (by decide +kernel) (by decide +kernel)
set_option maxRecDepth 100000 in
theorem wi_X5 : Cond.initialized RX5 ∈ z_W := z_at1 7 (by decide +kernel) (by decide +kernel)
set_option maxRecDepth 100000 in
theorem wm_X5_init : Cond.instanceMethod yX5_init ∈ z_W := z_at1 165 (by decide +kernel) (by decide +kernel)
abbrev mX8_row : z_M := (yX8_row, cX8_row, 5, some FieldType.int)
set_option maxRecDepth 100000 in
theorem wc_X8_row : Cond.code mX8_row.1 mX8_row.2.1 mX8_row.2.2.1 mX8_row.2.2.2 ∈ z_W := z_at1 212 (by decide +kernel) (by decide +kernel)
set_option maxRecDepth 100000 in
theorem wm_X8_row : Cond.instanceMethod yX8_row ∈ z_W := z_at1 210 (by decide +kernel) (by decide +kernel)
set_option maxRecDepth 100000 in
theorem ws_X8_row : Cond.selects RX8 yX8_row yX8_row ∈ z_W := z_at1 211 (by decide +kernel) (by decide +kernel)
abbrev mX8_shelfAt : z_M := (yX8_shelfAt, cX8_shelfAt, 2, some (FieldType.object "KnitReader$Shelf"))
set_option maxRecDepth 100000 in
theorem wc_X8_shelfAt : Cond.code mX8_shelfAt.1 mX8_shelfAt.2.1 mX8_shelfAt.2.2.1 mX8_shelfAt.2.2.2 ∈ z_W := z_at1 216 (by decide +kernel) (by decide +kernel)
set_option maxRecDepth 100000 in
theorem wm_X8_shelfAt : Cond.instanceMethod yX8_shelfAt ∈ z_W := z_at1 215 (by decide +kernel) (by decide +kernel)
set_option maxRecDepth 100000 in
theorem ws_X8_shelfAt : Cond.selects RX8 yX8_shelfAt yX8_shelfAt ∈ z_W := z_at0 0 (by decide +kernel) (by decide +kernel)
abbrev mX5_isSort : z_M := (yX5_isSort, cX5_isSort, 1, some FieldType.boolean)
set_option maxRecDepth 100000 in
theorem wc_X5_isSort : Cond.code mX5_isSort.1 mX5_isSort.2.1 mX5_isSort.2.2.1 mX5_isSort.2.2.2 ∈ z_W := z_at1 219 (by decide +kernel) (by decide +kernel)
set_option maxRecDepth 100000 in
theorem wt_X5_isSort : Cond.static yX5_isSort ∈ z_W := z_at1 218 (by decide +kernel) (by decide +kernel)
abbrev mX8_refuse : z_M := (yX8_refuse, cX8_refuse, 3, some FieldType.int)
set_option maxRecDepth 100000 in
theorem wc_X8_refuse : Cond.code mX8_refuse.1 mX8_refuse.2.1 mX8_refuse.2.2.1 mX8_refuse.2.2.2 ∈ z_W := z_at1 223 (by decide +kernel) (by decide +kernel)
set_option maxRecDepth 100000 in
theorem wm_X8_refuse : Cond.instanceMethod yX8_refuse ∈ z_W := z_at1 222 (by decide +kernel) (by decide +kernel)
set_option maxRecDepth 100000 in
theorem ws_X8_refuse : Cond.selects RX8 yX8_refuse yX8_refuse ∈ z_W := z_at0 1 (by decide +kernel) (by decide +kernel)
abbrev mX5_putRow : z_M := (yX5_putRow, cX5_putRow, 3, none)
set_option maxRecDepth 100000 in
theorem wc_X5_putRow : Cond.code mX5_putRow.1 mX5_putRow.2.1 mX5_putRow.2.2.1 mX5_putRow.2.2.2 ∈ z_W := z_at1 227 (by decide +kernel) (by decide +kernel)
set_option maxRecDepth 100000 in
theorem wm_X5_putRow : Cond.instanceMethod yX5_putRow ∈ z_W := z_at1 225 (by decide +kernel) (by decide +kernel)
set_option maxRecDepth 100000 in
theorem ws_X5_putRow : Cond.selects RX5 yX5_putRow yX5_putRow ∈ z_W := z_at1 226 (by decide +kernel) (by decide +kernel)
abbrev mJ7_fill_d0a16 : z_M := (yJ7_fill_d0a16, cJ7_fill_d0a16, 5, none)
set_option maxRecDepth 100000 in
theorem wc_J7_fill_d0a16 : Cond.code mJ7_fill_d0a16.1 mJ7_fill_d0a16.2.1 mJ7_fill_d0a16.2.2.1 mJ7_fill_d0a16.2.2.2 ∈ z_W := z_at1 230 (by decide +kernel) (by decide +kernel)
set_option maxRecDepth 100000 in
theorem wi_J7 : Cond.initialized RJ7 ∈ z_W := z_at1 9 (by decide +kernel) (by decide +kernel)
set_option maxRecDepth 100000 in
theorem wt_J7_fill_d0a16 : Cond.static yJ7_fill_d0a16 ∈ z_W := z_at1 229 (by decide +kernel) (by decide +kernel)
abbrev mX8_set : z_M := (yX8_set, cX8_set, 6, some FieldType.int)
set_option maxRecDepth 100000 in
theorem wc_X8_set : Cond.code mX8_set.1 mX8_set.2.1 mX8_set.2.2.1 mX8_set.2.2.2 ∈ z_W := z_at1 234 (by decide +kernel) (by decide +kernel)
set_option maxRecDepth 100000 in
theorem wm_X8_set : Cond.instanceMethod yX8_set ∈ z_W := z_at1 232 (by decide +kernel) (by decide +kernel)
set_option maxRecDepth 100000 in
theorem ws_X8_set : Cond.selects RX8 yX8_set yX8_set ∈ z_W := z_at1 233 (by decide +kernel) (by decide +kernel)
abbrev mX5_hasRow : z_M := (yX5_hasRow, cX5_hasRow, 1, some FieldType.boolean)
set_option maxRecDepth 100000 in
theorem wc_X5_hasRow : Cond.code mX5_hasRow.1 mX5_hasRow.2.1 mX5_hasRow.2.2.1 mX5_hasRow.2.2.2 ∈ z_W := z_at1 238 (by decide +kernel) (by decide +kernel)
set_option maxRecDepth 100000 in
theorem wm_X5_hasRow : Cond.instanceMethod yX5_hasRow ∈ z_W := z_at1 236 (by decide +kernel) (by decide +kernel)
set_option maxRecDepth 100000 in
theorem ws_X5_hasRow : Cond.selects RX5 yX5_hasRow yX5_hasRow ∈ z_W := z_at1 237 (by decide +kernel) (by decide +kernel)
abbrev mX5_isBare : z_M := (yX5_isBare, cX5_isBare, 1, some FieldType.boolean)
set_option maxRecDepth 100000 in
theorem wc_X5_isBare : Cond.code mX5_isBare.1 mX5_isBare.2.1 mX5_isBare.2.2.1 mX5_isBare.2.2.2 ∈ z_W := z_at1 243 (by decide +kernel) (by decide +kernel)
set_option maxRecDepth 100000 in
theorem wm_X5_isBare : Cond.instanceMethod yX5_isBare ∈ z_W := z_at1 241 (by decide +kernel) (by decide +kernel)
set_option maxRecDepth 100000 in
theorem ws_X5_isBare : Cond.selects RX5 yX5_isBare yX5_isBare ∈ z_W := z_at1 242 (by decide +kernel) (by decide +kernel)
abbrev mX5_putElement : z_M := (yX5_putElement, cX5_putElement, 4, some FieldType.boolean)
set_option maxRecDepth 100000 in
theorem wc_X5_putElement : Cond.code mX5_putElement.1 mX5_putElement.2.1 mX5_putElement.2.2.1 mX5_putElement.2.2.2 ∈ z_W := z_at1 247 (by decide +kernel) (by decide +kernel)
set_option maxRecDepth 100000 in
theorem wm_X5_putElement : Cond.instanceMethod yX5_putElement ∈ z_W := z_at1 245 (by decide +kernel) (by decide +kernel)
set_option maxRecDepth 100000 in
theorem ws_X5_putElement : Cond.selects RX5 yX5_putElement yX5_putElement ∈ z_W := z_at1 246 (by decide +kernel) (by decide +kernel)
abbrev mX5_hasElement : z_M := (yX5_hasElement, cX5_hasElement, 2, some FieldType.boolean)
set_option maxRecDepth 100000 in
theorem wc_X5_hasElement : Cond.code mX5_hasElement.1 mX5_hasElement.2.1 mX5_hasElement.2.2.1 mX5_hasElement.2.2.2 ∈ z_W := z_at1 251 (by decide +kernel) (by decide +kernel)
set_option maxRecDepth 100000 in
theorem wm_X5_hasElement : Cond.instanceMethod yX5_hasElement ∈ z_W := z_at1 249 (by decide +kernel) (by decide +kernel)
set_option maxRecDepth 100000 in
theorem ws_X5_hasElement : Cond.selects RX5 yX5_hasElement yX5_hasElement ∈ z_W := z_at1 250 (by decide +kernel) (by decide +kernel)
abbrev mX5_lowestBits : z_M := (yX5_lowestBits, cX5_lowestBits, 3, some FieldType.long)
set_option maxRecDepth 100000 in
theorem wc_X5_lowestBits : Cond.code mX5_lowestBits.1 mX5_lowestBits.2.1 mX5_lowestBits.2.2.1 mX5_lowestBits.2.2.2 ∈ z_W := z_at1 256 (by decide +kernel) (by decide +kernel)
set_option maxRecDepth 100000 in
theorem wm_X5_lowestBits : Cond.instanceMethod yX5_lowestBits ∈ z_W := z_at1 255 (by decide +kernel) (by decide +kernel)
set_option maxRecDepth 100000 in
theorem ws_X5_lowestBits : Cond.selects RX5 yX5_lowestBits yX5_lowestBits ∈ z_W := z_at0 2 (by decide +kernel) (by decide +kernel)
abbrev mX8_copy : z_M := (yX8_copy, cX8_copy, 8, some FieldType.int)
set_option maxRecDepth 100000 in
theorem wc_X8_copy : Cond.code mX8_copy.1 mX8_copy.2.1 mX8_copy.2.2.1 mX8_copy.2.2.2 ∈ z_W := z_at1 260 (by decide +kernel) (by decide +kernel)
set_option maxRecDepth 100000 in
theorem wm_X8_copy : Cond.instanceMethod yX8_copy ∈ z_W := z_at1 258 (by decide +kernel) (by decide +kernel)
set_option maxRecDepth 100000 in
theorem ws_X8_copy : Cond.selects RX8 yX8_copy yX8_copy ∈ z_W := z_at1 259 (by decide +kernel) (by decide +kernel)
abbrev mX5_hasStitch : z_M := (yX5_hasStitch, cX5_hasStitch, 1, some FieldType.boolean)
set_option maxRecDepth 100000 in
theorem wc_X5_hasStitch : Cond.code mX5_hasStitch.1 mX5_hasStitch.2.1 mX5_hasStitch.2.2.1 mX5_hasStitch.2.2.2 ∈ z_W := z_at1 264 (by decide +kernel) (by decide +kernel)
set_option maxRecDepth 100000 in
theorem wm_X5_hasStitch : Cond.instanceMethod yX5_hasStitch ∈ z_W := z_at1 262 (by decide +kernel) (by decide +kernel)
set_option maxRecDepth 100000 in
theorem ws_X5_hasStitch : Cond.selects RX5 yX5_hasStitch yX5_hasStitch ∈ z_W := z_at1 263 (by decide +kernel) (by decide +kernel)
abbrev mX5_giveElements : z_M := (yX5_giveElements, cX5_giveElements, 5, some FieldType.boolean)
set_option maxRecDepth 100000 in
theorem wc_X5_giveElements : Cond.code mX5_giveElements.1 mX5_giveElements.2.1 mX5_giveElements.2.2.1 mX5_giveElements.2.2.2 ∈ z_W := z_at1 268 (by decide +kernel) (by decide +kernel)
set_option maxRecDepth 100000 in
theorem wm_X5_giveElements : Cond.instanceMethod yX5_giveElements ∈ z_W := z_at1 266 (by decide +kernel) (by decide +kernel)
set_option maxRecDepth 100000 in
theorem ws_X5_giveElements : Cond.selects RX5 yX5_giveElements yX5_giveElements ∈ z_W := z_at1 267 (by decide +kernel) (by decide +kernel)
abbrev mX5_hasSpan : z_M := (yX5_hasSpan, cX5_hasSpan, 3, some FieldType.boolean)
set_option maxRecDepth 100000 in
theorem wc_X5_hasSpan : Cond.code mX5_hasSpan.1 mX5_hasSpan.2.1 mX5_hasSpan.2.2.1 mX5_hasSpan.2.2.2 ∈ z_W := z_at1 272 (by decide +kernel) (by decide +kernel)
set_option maxRecDepth 100000 in
theorem wm_X5_hasSpan : Cond.instanceMethod yX5_hasSpan ∈ z_W := z_at1 271 (by decide +kernel) (by decide +kernel)
set_option maxRecDepth 100000 in
theorem ws_X5_hasSpan : Cond.selects RX5 yX5_hasSpan yX5_hasSpan ∈ z_W := z_at0 3 (by decide +kernel) (by decide +kernel)
abbrev mJ9_min_7cf53 : z_M := (yJ9_min_7cf53, cJ9_min_7cf53, 2, some FieldType.int)
set_option maxRecDepth 100000 in
theorem wc_J9_min_7cf53 : Cond.code mJ9_min_7cf53.1 mJ9_min_7cf53.2.1 mJ9_min_7cf53.2.2.1 mJ9_min_7cf53.2.2.2 ∈ z_W := z_at1 275 (by decide +kernel) (by decide +kernel)
set_option maxRecDepth 100000 in
theorem wi_J9 : Cond.initialized RJ9 ∈ z_W := z_at1 10 (by decide +kernel) (by decide +kernel)
set_option maxRecDepth 100000 in
theorem wt_J9_min_7cf53 : Cond.static yJ9_min_7cf53 ∈ z_W := z_at1 274 (by decide +kernel) (by decide +kernel)
abbrev mX8_element : z_M := (yX8_element, cX8_element, 4, some FieldType.long)
set_option maxRecDepth 100000 in
theorem wc_X8_element : Cond.code mX8_element.1 mX8_element.2.1 mX8_element.2.2.1 mX8_element.2.2.2 ∈ z_W := z_at1 282 (by decide +kernel) (by decide +kernel)
set_option maxRecDepth 100000 in
theorem wm_X8_element : Cond.instanceMethod yX8_element ∈ z_W := z_at1 280 (by decide +kernel) (by decide +kernel)
set_option maxRecDepth 100000 in
theorem ws_X8_element : Cond.selects RX8 yX8_element yX8_element ∈ z_W := z_at1 281 (by decide +kernel) (by decide +kernel)
abbrev mX5_elementAt : z_M := (yX5_elementAt, cX5_elementAt, 2, some FieldType.long)
set_option maxRecDepth 100000 in
theorem wc_X5_elementAt : Cond.code mX5_elementAt.1 mX5_elementAt.2.1 mX5_elementAt.2.2.1 mX5_elementAt.2.2.2 ∈ z_W := z_at1 286 (by decide +kernel) (by decide +kernel)
set_option maxRecDepth 100000 in
theorem wm_X5_elementAt : Cond.instanceMethod yX5_elementAt ∈ z_W := z_at1 284 (by decide +kernel) (by decide +kernel)
set_option maxRecDepth 100000 in
theorem ws_X5_elementAt : Cond.selects RX5 yX5_elementAt yX5_elementAt ∈ z_W := z_at1 285 (by decide +kernel) (by decide +kernel)
abbrev mX8_holds : z_M := (yX8_holds, cX8_holds, 3, some FieldType.int)
set_option maxRecDepth 100000 in
theorem wc_X8_holds : Cond.code mX8_holds.1 mX8_holds.2.1 mX8_holds.2.2.1 mX8_holds.2.2.2 ∈ z_W := z_at1 290 (by decide +kernel) (by decide +kernel)
set_option maxRecDepth 100000 in
theorem wm_X8_holds : Cond.instanceMethod yX8_holds ∈ z_W := z_at1 288 (by decide +kernel) (by decide +kernel)
set_option maxRecDepth 100000 in
theorem ws_X8_holds : Cond.selects RX8 yX8_holds yX8_holds ∈ z_W := z_at1 289 (by decide +kernel) (by decide +kernel)
abbrev mX8_show : z_M := (yX8_show, cX8_show, 6, some FieldType.int)
set_option maxRecDepth 100000 in
theorem wc_X8_show : Cond.code mX8_show.1 mX8_show.2.1 mX8_show.2.2.1 mX8_show.2.2.2 ∈ z_W := z_at1 294 (by decide +kernel) (by decide +kernel)
set_option maxRecDepth 100000 in
theorem wm_X8_show : Cond.instanceMethod yX8_show ∈ z_W := z_at1 292 (by decide +kernel) (by decide +kernel)
set_option maxRecDepth 100000 in
theorem ws_X8_show : Cond.selects RX8 yX8_show yX8_show ∈ z_W := z_at1 293 (by decide +kernel) (by decide +kernel)
abbrev mX5_putNothing : z_M := (yX5_putNothing, cX5_putNothing, 1, none)
set_option maxRecDepth 100000 in
theorem wc_X5_putNothing : Cond.code mX5_putNothing.1 mX5_putNothing.2.1 mX5_putNothing.2.2.1 mX5_putNothing.2.2.2 ∈ z_W := z_at1 298 (by decide +kernel) (by decide +kernel)
set_option maxRecDepth 100000 in
theorem wm_X5_putNothing : Cond.instanceMethod yX5_putNothing ∈ z_W := z_at1 296 (by decide +kernel) (by decide +kernel)
set_option maxRecDepth 100000 in
theorem ws_X5_putNothing : Cond.selects RX5 yX5_putNothing yX5_putNothing ∈ z_W := z_at1 297 (by decide +kernel) (by decide +kernel)
abbrev mX6_doneAt : z_M := (yX6_doneAt, cX6_doneAt, 2, some (FieldType.object "KnitReader$Done"))
set_option maxRecDepth 100000 in
theorem wc_X6_doneAt : Cond.code mX6_doneAt.1 mX6_doneAt.2.1 mX6_doneAt.2.2.1 mX6_doneAt.2.2.2 ∈ z_W := z_at1 302 (by decide +kernel) (by decide +kernel)
set_option maxRecDepth 100000 in
theorem wm_X6_doneAt : Cond.instanceMethod yX6_doneAt ∈ z_W := z_at1 300 (by decide +kernel) (by decide +kernel)
set_option maxRecDepth 100000 in
theorem ws_X6_doneAt : Cond.selects RX6 yX6_doneAt yX6_doneAt ∈ z_W := z_at1 301 (by decide +kernel) (by decide +kernel)
abbrev mX7_hasPlace : z_M := (yX7_hasPlace, cX7_hasPlace, 2, some FieldType.boolean)
set_option maxRecDepth 100000 in
theorem wc_X7_hasPlace : Cond.code mX7_hasPlace.1 mX7_hasPlace.2.1 mX7_hasPlace.2.2.1 mX7_hasPlace.2.2.2 ∈ z_W := z_at1 306 (by decide +kernel) (by decide +kernel)
set_option maxRecDepth 100000 in
theorem wm_X7_hasPlace : Cond.instanceMethod yX7_hasPlace ∈ z_W := z_at1 304 (by decide +kernel) (by decide +kernel)
set_option maxRecDepth 100000 in
theorem ws_X7_hasPlace : Cond.selects RX7 yX7_hasPlace yX7_hasPlace ∈ z_W := z_at1 305 (by decide +kernel) (by decide +kernel)
abbrev mX7_kindAt : z_M := (yX7_kindAt, cX7_kindAt, 2, some FieldType.int)
set_option maxRecDepth 100000 in
theorem wc_X7_kindAt : Cond.code mX7_kindAt.1 mX7_kindAt.2.1 mX7_kindAt.2.2.1 mX7_kindAt.2.2.2 ∈ z_W := z_at1 310 (by decide +kernel) (by decide +kernel)
set_option maxRecDepth 100000 in
theorem wm_X7_kindAt : Cond.instanceMethod yX7_kindAt ∈ z_W := z_at1 308 (by decide +kernel) (by decide +kernel)
set_option maxRecDepth 100000 in
theorem ws_X7_kindAt : Cond.selects RX7 yX7_kindAt yX7_kindAt ∈ z_W := z_at1 309 (by decide +kernel) (by decide +kernel)
abbrev mX5_putStitch : z_M := (yX5_putStitch, cX5_putStitch, 2, none)
set_option maxRecDepth 100000 in
theorem wc_X5_putStitch : Cond.code mX5_putStitch.1 mX5_putStitch.2.1 mX5_putStitch.2.2.1 mX5_putStitch.2.2.2 ∈ z_W := z_at1 315 (by decide +kernel) (by decide +kernel)
set_option maxRecDepth 100000 in
theorem wm_X5_putStitch : Cond.instanceMethod yX5_putStitch ∈ z_W := z_at1 313 (by decide +kernel) (by decide +kernel)
set_option maxRecDepth 100000 in
theorem ws_X5_putStitch : Cond.selects RX5 yX5_putStitch yX5_putStitch ∈ z_W := z_at1 314 (by decide +kernel) (by decide +kernel)
abbrev mX8_says : z_M := (yX8_says, cX8_says, 5, some FieldType.int)
set_option maxRecDepth 100000 in
theorem wc_X8_says : Cond.code mX8_says.1 mX8_says.2.1 mX8_says.2.2.1 mX8_says.2.2.2 ∈ z_W := z_at1 319 (by decide +kernel) (by decide +kernel)
set_option maxRecDepth 100000 in
theorem wm_X8_says : Cond.instanceMethod yX8_says ∈ z_W := z_at1 317 (by decide +kernel) (by decide +kernel)
set_option maxRecDepth 100000 in
theorem ws_X8_says : Cond.selects RX8 yX8_says yX8_says ∈ z_W := z_at1 318 (by decide +kernel) (by decide +kernel)
abbrev mX2_isKind : z_M := (yX2_isKind, cX2_isKind, 1, some FieldType.boolean)
set_option maxRecDepth 100000 in
theorem wc_X2_isKind : Cond.code mX2_isKind.1 mX2_isKind.2.1 mX2_isKind.2.2.1 mX2_isKind.2.2.2 ∈ z_W := z_at1 322 (by decide +kernel) (by decide +kernel)
set_option maxRecDepth 100000 in
theorem wi_X2 : Cond.initialized RX2 ∈ z_W := z_at1 12 (by decide +kernel) (by decide +kernel)
set_option maxRecDepth 100000 in
theorem wt_X2_isKind : Cond.static yX2_isKind ∈ z_W := z_at1 321 (by decide +kernel) (by decide +kernel)
abbrev mX5_stitchKind : z_M := (yX5_stitchKind, cX5_stitchKind, 1, some FieldType.int)
set_option maxRecDepth 100000 in
theorem wc_X5_stitchKind : Cond.code mX5_stitchKind.1 mX5_stitchKind.2.1 mX5_stitchKind.2.2.1 mX5_stitchKind.2.2.2 ∈ z_W := z_at1 326 (by decide +kernel) (by decide +kernel)
set_option maxRecDepth 100000 in
theorem wm_X5_stitchKind : Cond.instanceMethod yX5_stitchKind ∈ z_W := z_at1 324 (by decide +kernel) (by decide +kernel)
set_option maxRecDepth 100000 in
theorem ws_X5_stitchKind : Cond.selects RX5 yX5_stitchKind yX5_stitchKind ∈ z_W := z_at1 325 (by decide +kernel) (by decide +kernel)
abbrev mX2_isUnder : z_M := (yX2_isUnder, cX2_isUnder, 4, some FieldType.boolean)
set_option maxRecDepth 100000 in
theorem wc_X2_isUnder : Cond.code mX2_isUnder.1 mX2_isUnder.2.1 mX2_isUnder.2.2.1 mX2_isUnder.2.2.2 ∈ z_W := z_at1 330 (by decide +kernel) (by decide +kernel)
set_option maxRecDepth 100000 in
theorem wt_X2_isUnder : Cond.static yX2_isUnder ∈ z_W := z_at1 329 (by decide +kernel) (by decide +kernel)
abbrev mX2_saying : z_M := (yX2_saying, cX2_saying, 2, some FieldType.int)
set_option maxRecDepth 100000 in
theorem wc_X2_saying : Cond.code mX2_saying.1 mX2_saying.2.1 mX2_saying.2.2.1 mX2_saying.2.2.2 ∈ z_W := z_at1 336 (by decide +kernel) (by decide +kernel)
set_option maxRecDepth 100000 in
theorem wt_X2_saying : Cond.static yX2_saying ∈ z_W := z_at1 335 (by decide +kernel) (by decide +kernel)
abbrev mX2_yarnOf : z_M := (yX2_yarnOf, cX2_yarnOf, 1, some FieldType.int)
set_option maxRecDepth 100000 in
theorem wc_X2_yarnOf : Cond.code mX2_yarnOf.1 mX2_yarnOf.2.1 mX2_yarnOf.2.2.1 mX2_yarnOf.2.2.2 ∈ z_W := z_at1 339 (by decide +kernel) (by decide +kernel)
set_option maxRecDepth 100000 in
theorem wt_X2_yarnOf : Cond.static yX2_yarnOf ∈ z_W := z_at1 338 (by decide +kernel) (by decide +kernel)
abbrev mX2_madeBy : z_M := (yX2_madeBy, cX2_madeBy, 1, some FieldType.int)
set_option maxRecDepth 100000 in
theorem wc_X2_madeBy : Cond.code mX2_madeBy.1 mX2_madeBy.2.1 mX2_madeBy.2.2.1 mX2_madeBy.2.2.2 ∈ z_W := z_at1 344 (by decide +kernel) (by decide +kernel)
set_option maxRecDepth 100000 in
theorem wt_X2_madeBy : Cond.static yX2_madeBy ∈ z_W := z_at1 343 (by decide +kernel) (by decide +kernel)
abbrev mX2_takenBy : z_M := (yX2_takenBy, cX2_takenBy, 1, some FieldType.int)
set_option maxRecDepth 100000 in
theorem wc_X2_takenBy : Cond.code mX2_takenBy.1 mX2_takenBy.2.1 mX2_takenBy.2.2.1 mX2_takenBy.2.2.2 ∈ z_W := z_at1 349 (by decide +kernel) (by decide +kernel)
set_option maxRecDepth 100000 in
theorem wt_X2_takenBy : Cond.static yX2_takenBy ∈ z_W := z_at1 348 (by decide +kernel) (by decide +kernel)
abbrev mX2_turnedTo : z_M := (yX2_turnedTo, cX2_turnedTo, 1, some FieldType.int)
set_option maxRecDepth 100000 in
theorem wc_X2_turnedTo : Cond.code mX2_turnedTo.1 mX2_turnedTo.2.1 mX2_turnedTo.2.2.1 mX2_turnedTo.2.2.2 ∈ z_W := z_at1 354 (by decide +kernel) (by decide +kernel)
set_option maxRecDepth 100000 in
theorem wt_X2_turnedTo : Cond.static yX2_turnedTo ∈ z_W := z_at1 353 (by decide +kernel) (by decide +kernel)
abbrev mX2_mirroredTo : z_M := (yX2_mirroredTo, cX2_mirroredTo, 1, some FieldType.int)
set_option maxRecDepth 100000 in
theorem wc_X2_mirroredTo : Cond.code mX2_mirroredTo.1 mX2_mirroredTo.2.1 mX2_mirroredTo.2.2.1 mX2_mirroredTo.2.2.2 ∈ z_W := z_at1 357 (by decide +kernel) (by decide +kernel)
set_option maxRecDepth 100000 in
theorem wt_X2_mirroredTo : Cond.static yX2_mirroredTo ∈ z_W := z_at1 356 (by decide +kernel) (by decide +kernel)
abbrev mX8_feed : z_M := (yX8_feed, cX8_feed, 2, some FieldType.int)
set_option maxRecDepth 100000 in
theorem wc_X8_feed : Cond.code mX8_feed.1 mX8_feed.2.1 mX8_feed.2.2.1 mX8_feed.2.2.2 ∈ z_W := z_at1 361 (by decide +kernel) (by decide +kernel)
set_option maxRecDepth 100000 in
theorem wm_X8_feed : Cond.instanceMethod yX8_feed ∈ z_W := z_at1 359 (by decide +kernel) (by decide +kernel)
set_option maxRecDepth 100000 in
theorem ws_X8_feed : Cond.selects RX8 yX8_feed yX8_feed ∈ z_W := z_at1 360 (by decide +kernel) (by decide +kernel)
abbrev mX8_wipe : z_M := (yX8_wipe, cX8_wipe, 2, some FieldType.int)
set_option maxRecDepth 100000 in
theorem wc_X8_wipe : Cond.code mX8_wipe.1 mX8_wipe.2.1 mX8_wipe.2.2.1 mX8_wipe.2.2.2 ∈ z_W := z_at1 365 (by decide +kernel) (by decide +kernel)
set_option maxRecDepth 100000 in
theorem wm_X8_wipe : Cond.instanceMethod yX8_wipe ∈ z_W := z_at1 363 (by decide +kernel) (by decide +kernel)
set_option maxRecDepth 100000 in
theorem ws_X8_wipe : Cond.selects RX8 yX8_wipe yX8_wipe ∈ z_W := z_at1 364 (by decide +kernel) (by decide +kernel)
abbrev mX8_line : z_M := (yX8_line, cX8_line, 2, some FieldType.int)
set_option maxRecDepth 100000 in
theorem wc_X8_line : Cond.code mX8_line.1 mX8_line.2.1 mX8_line.2.2.1 mX8_line.2.2.2 ∈ z_W := z_at1 369 (by decide +kernel) (by decide +kernel)
set_option maxRecDepth 100000 in
theorem wm_X8_line : Cond.instanceMethod yX8_line ∈ z_W := z_at1 367 (by decide +kernel) (by decide +kernel)
set_option maxRecDepth 100000 in
theorem ws_X8_line : Cond.selects RX8 yX8_line yX8_line ∈ z_W := z_at1 368 (by decide +kernel) (by decide +kernel)
abbrev mX3_init : z_M := (yX3_init, cX3_init, 4, none)
set_option maxRecDepth 100000 in
theorem wc_X3_init : Cond.code mX3_init.1 mX3_init.2.1 mX3_init.2.2.1 mX3_init.2.2.2 ∈ z_W := z_at1 374 (by decide +kernel) (by decide +kernel)
set_option maxRecDepth 100000 in
theorem wi_X3 : Cond.initialized RX3 ∈ z_W := z_at1 13 (by decide +kernel) (by decide +kernel)
set_option maxRecDepth 100000 in
theorem wm_X3_init : Cond.instanceMethod yX3_init ∈ z_W := z_at1 373 (by decide +kernel) (by decide +kernel)
abbrev mJ9_max_7cf53 : z_M := (yJ9_max_7cf53, cJ9_max_7cf53, 2, some FieldType.int)
set_option maxRecDepth 100000 in
theorem wc_J9_max_7cf53 : Cond.code mJ9_max_7cf53.1 mJ9_max_7cf53.2.1 mJ9_max_7cf53.2.2.1 mJ9_max_7cf53.2.2.2 ∈ z_W := z_at1 379 (by decide +kernel) (by decide +kernel)
set_option maxRecDepth 100000 in
theorem wt_J9_max_7cf53 : Cond.static yJ9_max_7cf53 ∈ z_W := z_at1 378 (by decide +kernel) (by decide +kernel)
abbrev mJ7_copyOf_59c91 : z_M := (yJ7_copyOf_59c91, cJ7_copyOf_59c91, 3, some (FieldType.array FieldType.int))
set_option maxRecDepth 100000 in
theorem wc_J7_copyOf_59c91 : Cond.code mJ7_copyOf_59c91.1 mJ7_copyOf_59c91.2.1 mJ7_copyOf_59c91.2.2.1 mJ7_copyOf_59c91.2.2.2 ∈ z_W := z_at1 382 (by decide +kernel) (by decide +kernel)
set_option maxRecDepth 100000 in
theorem wt_J7_copyOf_59c91 : Cond.static yJ7_copyOf_59c91 ∈ z_W := z_at1 381 (by decide +kernel) (by decide +kernel)
abbrev mX3_readText : z_M := (yX3_readText, cX3_readText, 1, none)
set_option maxRecDepth 100000 in
theorem wc_X3_readText : Cond.code mX3_readText.1 mX3_readText.2.1 mX3_readText.2.2.1 mX3_readText.2.2.2 ∈ z_W := z_at1 431 (by decide +kernel) (by decide +kernel)
set_option maxRecDepth 100000 in
theorem wm_X3_readText : Cond.instanceMethod yX3_readText ∈ z_W := z_at1 429 (by decide +kernel) (by decide +kernel)
set_option maxRecDepth 100000 in
theorem ws_X3_readText : Cond.selects RX3 yX3_readText yX3_readText ∈ z_W := z_at1 430 (by decide +kernel) (by decide +kernel)
abbrev mX3_readParts : z_M := (yX3_readParts, cX3_readParts, 3, none)
set_option maxRecDepth 100000 in
theorem wc_X3_readParts : Cond.code mX3_readParts.1 mX3_readParts.2.1 mX3_readParts.2.2.1 mX3_readParts.2.2.2 ∈ z_W := z_at1 435 (by decide +kernel) (by decide +kernel)
set_option maxRecDepth 100000 in
theorem wm_X3_readParts : Cond.instanceMethod yX3_readParts ∈ z_W := z_at1 434 (by decide +kernel) (by decide +kernel)
set_option maxRecDepth 100000 in
theorem ws_X3_readParts : Cond.selects RX3 yX3_readParts yX3_readParts ∈ z_W := z_at0 4 (by decide +kernel) (by decide +kernel)
abbrev mX3_readPart : z_M := (yX3_readPart, cX3_readPart, 3, none)
set_option maxRecDepth 100000 in
theorem wc_X3_readPart : Cond.code mX3_readPart.1 mX3_readPart.2.1 mX3_readPart.2.2.1 mX3_readPart.2.2.2 ∈ z_W := z_at1 439 (by decide +kernel) (by decide +kernel)
set_option maxRecDepth 100000 in
theorem wm_X3_readPart : Cond.instanceMethod yX3_readPart ∈ z_W := z_at1 438 (by decide +kernel) (by decide +kernel)
set_option maxRecDepth 100000 in
theorem ws_X3_readPart : Cond.selects RX3 yX3_readPart yX3_readPart ∈ z_W := z_at0 5 (by decide +kernel) (by decide +kernel)
abbrev mX3_byteAt : z_M := (yX3_byteAt, cX3_byteAt, 2, some FieldType.int)
set_option maxRecDepth 100000 in
theorem wc_X3_byteAt : Cond.code mX3_byteAt.1 mX3_byteAt.2.1 mX3_byteAt.2.2.1 mX3_byteAt.2.2.2 ∈ z_W := z_at1 443 (by decide +kernel) (by decide +kernel)
set_option maxRecDepth 100000 in
theorem wm_X3_byteAt : Cond.instanceMethod yX3_byteAt ∈ z_W := z_at1 441 (by decide +kernel) (by decide +kernel)
set_option maxRecDepth 100000 in
theorem ws_X3_byteAt : Cond.selects RX3 yX3_byteAt yX3_byteAt ∈ z_W := z_at1 442 (by decide +kernel) (by decide +kernel)
abbrev mX3_isLetter : z_M := (yX3_isLetter, cX3_isLetter, 1, some FieldType.boolean)
set_option maxRecDepth 100000 in
theorem wc_X3_isLetter : Cond.code mX3_isLetter.1 mX3_isLetter.2.1 mX3_isLetter.2.2.1 mX3_isLetter.2.2.2 ∈ z_W := z_at1 446 (by decide +kernel) (by decide +kernel)
set_option maxRecDepth 100000 in
theorem wt_X3_isLetter : Cond.static yX3_isLetter ∈ z_W := z_at1 445 (by decide +kernel) (by decide +kernel)
abbrev mX3_readWord : z_M := (yX3_readWord, cX3_readWord, 5, none)
set_option maxRecDepth 100000 in
theorem wc_X3_readWord : Cond.code mX3_readWord.1 mX3_readWord.2.1 mX3_readWord.2.2.1 mX3_readWord.2.2.2 ∈ z_W := z_at1 450 (by decide +kernel) (by decide +kernel)
set_option maxRecDepth 100000 in
theorem wm_X3_readWord : Cond.instanceMethod yX3_readWord ∈ z_W := z_at1 449 (by decide +kernel) (by decide +kernel)
set_option maxRecDepth 100000 in
theorem ws_X3_readWord : Cond.selects RX3 yX3_readWord yX3_readWord ∈ z_W := z_at0 6 (by decide +kernel) (by decide +kernel)
abbrev mX3_kindSpelled : z_M := (yX3_kindSpelled, cX3_kindSpelled, 4, some FieldType.int)
set_option maxRecDepth 100000 in
theorem wc_X3_kindSpelled : Cond.code mX3_kindSpelled.1 mX3_kindSpelled.2.1 mX3_kindSpelled.2.2.1 mX3_kindSpelled.2.2.2 ∈ z_W := z_at1 454 (by decide +kernel) (by decide +kernel)
set_option maxRecDepth 100000 in
theorem wm_X3_kindSpelled : Cond.instanceMethod yX3_kindSpelled ∈ z_W := z_at1 453 (by decide +kernel) (by decide +kernel)
set_option maxRecDepth 100000 in
theorem ws_X3_kindSpelled : Cond.selects RX3 yX3_kindSpelled yX3_kindSpelled ∈ z_W := z_at0 7 (by decide +kernel) (by decide +kernel)
abbrev mX2_wordOf : z_M := (yX2_wordOf, cX2_wordOf, 1, some (FieldType.object "java/lang/String"))
set_option maxRecDepth 100000 in
theorem wc_X2_wordOf : Cond.code mX2_wordOf.1 mX2_wordOf.2.1 mX2_wordOf.2.2.1 mX2_wordOf.2.2.2 ∈ z_W := z_at1 457 (by decide +kernel) (by decide +kernel)
set_option maxRecDepth 100000 in
theorem wt_X2_wordOf : Cond.static yX2_wordOf ∈ z_W := z_at1 456 (by decide +kernel) (by decide +kernel)
abbrev mX3_isSpelled : z_M := (yX3_isSpelled, cX3_isSpelled, 5, some FieldType.boolean)
set_option maxRecDepth 100000 in
theorem wc_X3_isSpelled : Cond.code mX3_isSpelled.1 mX3_isSpelled.2.1 mX3_isSpelled.2.2.1 mX3_isSpelled.2.2.2 ∈ z_W := z_at1 471 (by decide +kernel) (by decide +kernel)
set_option maxRecDepth 100000 in
theorem wm_X3_isSpelled : Cond.instanceMethod yX3_isSpelled ∈ z_W := z_at1 470 (by decide +kernel) (by decide +kernel)
set_option maxRecDepth 100000 in
theorem ws_X3_isSpelled : Cond.selects RX3 yX3_isSpelled yX3_isSpelled ∈ z_W := z_at0 8 (by decide +kernel) (by decide +kernel)
abbrev mJ0_length_8abf5 : z_M := (yJ0_length_8abf5, cJ0_length_8abf5, 1, some FieldType.int)
set_option maxRecDepth 100000 in
theorem wc_J0_length_8abf5 : Cond.code mJ0_length_8abf5.1 mJ0_length_8abf5.2.1 mJ0_length_8abf5.2.2.1 mJ0_length_8abf5.2.2.2 ∈ z_W := z_at1 475 (by decide +kernel) (by decide +kernel)
set_option maxRecDepth 100000 in
theorem wi_J0 : Cond.initialized RJ0 ∈ z_W := z_at1 14 (by decide +kernel) (by decide +kernel)
set_option maxRecDepth 100000 in
theorem wm_J0_length_8abf5 : Cond.instanceMethod yJ0_length_8abf5 ∈ z_W := z_at1 473 (by decide +kernel) (by decide +kernel)
set_option maxRecDepth 100000 in
theorem ws_J0_length_8abf5 : Cond.selects RJ0 yJ0_length_8abf5 yJ0_length_8abf5 ∈ z_W := z_at1 474 (by decide +kernel) (by decide +kernel)
abbrev mJ0_coder_7d493 : z_M := (yJ0_coder_7d493, cJ0_coder_7d493, 1, some FieldType.byte)
set_option maxRecDepth 100000 in
theorem wc_J0_coder_7d493 : Cond.code mJ0_coder_7d493.1 mJ0_coder_7d493.2.1 mJ0_coder_7d493.2.2.1 mJ0_coder_7d493.2.2.2 ∈ z_W := z_at1 479 (by decide +kernel) (by decide +kernel)
set_option maxRecDepth 100000 in
theorem wm_J0_coder_7d493 : Cond.instanceMethod yJ0_coder_7d493 ∈ z_W := z_at1 477 (by decide +kernel) (by decide +kernel)
set_option maxRecDepth 100000 in
theorem ws_J0_coder_7d493 : Cond.selects RJ0 yJ0_coder_7d493 yJ0_coder_7d493 ∈ z_W := z_at1 478 (by decide +kernel) (by decide +kernel)
abbrev mJ0_charAt_5068e : z_M := (yJ0_charAt_5068e, cJ0_charAt_5068e, 2, some FieldType.char)
set_option maxRecDepth 100000 in
theorem wc_J0_charAt_5068e : Cond.code mJ0_charAt_5068e.1 mJ0_charAt_5068e.2.1 mJ0_charAt_5068e.2.2.1 mJ0_charAt_5068e.2.2.2 ∈ z_W := z_at1 485 (by decide +kernel) (by decide +kernel)
set_option maxRecDepth 100000 in
theorem wm_J0_charAt_5068e : Cond.instanceMethod yJ0_charAt_5068e ∈ z_W := z_at1 483 (by decide +kernel) (by decide +kernel)
set_option maxRecDepth 100000 in
theorem ws_J0_charAt_5068e : Cond.selects RJ0 yJ0_charAt_5068e yJ0_charAt_5068e ∈ z_W := z_at1 484 (by decide +kernel) (by decide +kernel)
abbrev mJ0_isLatin1_aae02 : z_M := (yJ0_isLatin1_aae02, cJ0_isLatin1_aae02, 1, some FieldType.boolean)
set_option maxRecDepth 100000 in
theorem wc_J0_isLatin1_aae02 : Cond.code mJ0_isLatin1_aae02.1 mJ0_isLatin1_aae02.2.1 mJ0_isLatin1_aae02.2.2.1 mJ0_isLatin1_aae02.2.2.2 ∈ z_W := z_at1 489 (by decide +kernel) (by decide +kernel)
set_option maxRecDepth 100000 in
theorem wm_J0_isLatin1_aae02 : Cond.instanceMethod yJ0_isLatin1_aae02 ∈ z_W := z_at1 487 (by decide +kernel) (by decide +kernel)
set_option maxRecDepth 100000 in
theorem ws_J0_isLatin1_aae02 : Cond.selects RJ0 yJ0_isLatin1_aae02 yJ0_isLatin1_aae02 ∈ z_W := z_at1 488 (by decide +kernel) (by decide +kernel)
abbrev mJ1_charAt_3b067 : z_M := (yJ1_charAt_3b067, cJ1_charAt_3b067, 2, some FieldType.char)
set_option maxRecDepth 100000 in
theorem wc_J1_charAt_3b067 : Cond.code mJ1_charAt_3b067.1 mJ1_charAt_3b067.2.1 mJ1_charAt_3b067.2.2.1 mJ1_charAt_3b067.2.2.2 ∈ z_W := z_at1 492 (by decide +kernel) (by decide +kernel)
set_option maxRecDepth 100000 in
theorem wi_J1 : Cond.initialized RJ1 ∈ z_W := z_at1 15 (by decide +kernel) (by decide +kernel)
set_option maxRecDepth 100000 in
theorem wt_J1_charAt_3b067 : Cond.static yJ1_charAt_3b067 ∈ z_W := z_at1 491 (by decide +kernel) (by decide +kernel)
abbrev mJ0_checkIndex_df160 : z_M := (yJ0_checkIndex_df160, cJ0_checkIndex_df160, 2, none)
set_option maxRecDepth 100000 in
theorem wc_J0_checkIndex_df160 : Cond.code mJ0_checkIndex_df160.1 mJ0_checkIndex_df160.2.1 mJ0_checkIndex_df160.2.2.1 mJ0_checkIndex_df160.2.2.2 ∈ z_W := z_at1 495 (by decide +kernel) (by decide +kernel)
set_option maxRecDepth 100000 in
theorem wt_J0_checkIndex_df160 : Cond.static yJ0_checkIndex_df160 ∈ z_W := z_at1 494 (by decide +kernel) (by decide +kernel)
abbrev mJ3_checkIndex_8e157 : z_M := (yJ3_checkIndex_8e157, cJ3_checkIndex_8e157, 3, some FieldType.int)
set_option maxRecDepth 100000 in
theorem wc_J3_checkIndex_8e157 : Cond.code mJ3_checkIndex_8e157.1 mJ3_checkIndex_8e157.2.1 mJ3_checkIndex_8e157.2.2.1 mJ3_checkIndex_8e157.2.2.2 ∈ z_W := z_at1 500 (by decide +kernel) (by decide +kernel)
set_option maxRecDepth 100000 in
theorem wi_J3 : Cond.initialized RJ3 ∈ z_W := z_at1 16 (by decide +kernel) (by decide +kernel)
set_option maxRecDepth 100000 in
theorem wt_J3_checkIndex_8e157 : Cond.static yJ3_checkIndex_8e157 ∈ z_W := z_at1 499 (by decide +kernel) (by decide +kernel)
abbrev mJ2_charAt_3b067 : z_M := (yJ2_charAt_3b067, cJ2_charAt_3b067, 2, some FieldType.char)
set_option maxRecDepth 100000 in
theorem wc_J2_charAt_3b067 : Cond.code mJ2_charAt_3b067.1 mJ2_charAt_3b067.2.1 mJ2_charAt_3b067.2.2.1 mJ2_charAt_3b067.2.2.2 ∈ z_W := z_at1 503 (by decide +kernel) (by decide +kernel)
set_option maxRecDepth 100000 in
theorem wi_J2 : Cond.initialized RJ2 ∈ z_W := z_at1 17 (by decide +kernel) (by decide +kernel)
set_option maxRecDepth 100000 in
theorem wt_J2_charAt_3b067 : Cond.static yJ2_charAt_3b067 ∈ z_W := z_at1 502 (by decide +kernel) (by decide +kernel)
abbrev mJ2_checkIndex_2214a : z_M := (yJ2_checkIndex_2214a, cJ2_checkIndex_2214a, 2, none)
set_option maxRecDepth 100000 in
theorem wc_J2_checkIndex_2214a : Cond.code mJ2_checkIndex_2214a.1 mJ2_checkIndex_2214a.2.1 mJ2_checkIndex_2214a.2.2.1 mJ2_checkIndex_2214a.2.2.2 ∈ z_W := z_at1 506 (by decide +kernel) (by decide +kernel)
set_option maxRecDepth 100000 in
theorem wt_J2_checkIndex_2214a : Cond.static yJ2_checkIndex_2214a ∈ z_W := z_at1 505 (by decide +kernel) (by decide +kernel)
abbrev mJ2_length_9d52b : z_M := (yJ2_length_9d52b, cJ2_length_9d52b, 1, some FieldType.int)
set_option maxRecDepth 100000 in
theorem wc_J2_length_9d52b : Cond.code mJ2_length_9d52b.1 mJ2_length_9d52b.2.1 mJ2_length_9d52b.2.2.1 mJ2_length_9d52b.2.2.2 ∈ z_W := z_at1 509 (by decide +kernel) (by decide +kernel)
set_option maxRecDepth 100000 in
theorem wt_J2_length_9d52b : Cond.static yJ2_length_9d52b ∈ z_W := z_at1 508 (by decide +kernel) (by decide +kernel)
abbrev mJ2_getChar_3b067 : z_M := (yJ2_getChar_3b067, cJ2_getChar_3b067, 2, some FieldType.char)
set_option maxRecDepth 100000 in
theorem wc_J2_getChar_3b067 : Cond.code mJ2_getChar_3b067.1 mJ2_getChar_3b067.2.1 mJ2_getChar_3b067.2.2.1 mJ2_getChar_3b067.2.2.2 ∈ z_W := z_at1 513 (by decide +kernel) (by decide +kernel)
set_option maxRecDepth 100000 in
theorem wt_J2_getChar_3b067 : Cond.static yJ2_getChar_3b067 ∈ z_W := z_at1 512 (by decide +kernel) (by decide +kernel)
abbrev mX3_openPart : z_M := (yX3_openPart, cX3_openPart, 5, some FieldType.int)
set_option maxRecDepth 100000 in
theorem wc_X3_openPart : Cond.code mX3_openPart.1 mX3_openPart.2.1 mX3_openPart.2.2.1 mX3_openPart.2.2.2 ∈ z_W := z_at1 523 (by decide +kernel) (by decide +kernel)
set_option maxRecDepth 100000 in
theorem wm_X3_openPart : Cond.instanceMethod yX3_openPart ∈ z_W := z_at1 522 (by decide +kernel) (by decide +kernel)
set_option maxRecDepth 100000 in
theorem ws_X3_openPart : Cond.selects RX3 yX3_openPart yX3_openPart ∈ z_W := z_at0 9 (by decide +kernel) (by decide +kernel)
abbrev mX3_isDigit : z_M := (yX3_isDigit, cX3_isDigit, 1, some FieldType.boolean)
set_option maxRecDepth 100000 in
theorem wc_X3_isDigit : Cond.code mX3_isDigit.1 mX3_isDigit.2.1 mX3_isDigit.2.2.1 mX3_isDigit.2.2.2 ∈ z_W := z_at1 526 (by decide +kernel) (by decide +kernel)
set_option maxRecDepth 100000 in
theorem wt_X3_isDigit : Cond.static yX3_isDigit ∈ z_W := z_at1 525 (by decide +kernel) (by decide +kernel)
abbrev mX3_readNumber : z_M := (yX3_readNumber, cX3_readNumber, 4, some FieldType.int)
set_option maxRecDepth 100000 in
theorem wc_X3_readNumber : Cond.code mX3_readNumber.1 mX3_readNumber.2.1 mX3_readNumber.2.2.1 mX3_readNumber.2.2.2 ∈ z_W := z_at1 530 (by decide +kernel) (by decide +kernel)
set_option maxRecDepth 100000 in
theorem wm_X3_readNumber : Cond.instanceMethod yX3_readNumber ∈ z_W := z_at1 529 (by decide +kernel) (by decide +kernel)
set_option maxRecDepth 100000 in
theorem ws_X3_readNumber : Cond.selects RX3 yX3_readNumber yX3_readNumber ∈ z_W := z_at0 10 (by decide +kernel) (by decide +kernel)
abbrev mX3_closePart : z_M := (yX3_closePart, cX3_closePart, 3, none)
set_option maxRecDepth 100000 in
theorem wc_X3_closePart : Cond.code mX3_closePart.1 mX3_closePart.2.1 mX3_closePart.2.2.1 mX3_closePart.2.2.2 ∈ z_W := z_at1 534 (by decide +kernel) (by decide +kernel)
set_option maxRecDepth 100000 in
theorem wm_X3_closePart : Cond.instanceMethod yX3_closePart ∈ z_W := z_at1 533 (by decide +kernel) (by decide +kernel)
set_option maxRecDepth 100000 in
theorem ws_X3_closePart : Cond.selects RX3 yX3_closePart yX3_closePart ∈ z_W := z_at0 11 (by decide +kernel) (by decide +kernel)
abbrev mX3_readGroup : z_M := (yX3_readGroup, cX3_readGroup, 6, none)
set_option maxRecDepth 100000 in
theorem wc_X3_readGroup : Cond.code mX3_readGroup.1 mX3_readGroup.2.1 mX3_readGroup.2.2.1 mX3_readGroup.2.2.2 ∈ z_W := z_at1 538 (by decide +kernel) (by decide +kernel)
set_option maxRecDepth 100000 in
theorem wm_X3_readGroup : Cond.instanceMethod yX3_readGroup ∈ z_W := z_at1 537 (by decide +kernel) (by decide +kernel)
set_option maxRecDepth 100000 in
theorem ws_X3_readGroup : Cond.selects RX3 yX3_readGroup yX3_readGroup ∈ z_W := z_at0 12 (by decide +kernel) (by decide +kernel)
abbrev mX6_addLine : z_M := (yX6_addLine, cX6_addLine, 2, some FieldType.boolean)
set_option maxRecDepth 100000 in
theorem wc_X6_addLine : Cond.code mX6_addLine.1 mX6_addLine.2.1 mX6_addLine.2.2.1 mX6_addLine.2.2.2 ∈ z_W := z_at1 542 (by decide +kernel) (by decide +kernel)
set_option maxRecDepth 100000 in
theorem wm_X6_addLine : Cond.instanceMethod yX6_addLine ∈ z_W := z_at1 540 (by decide +kernel) (by decide +kernel)
set_option maxRecDepth 100000 in
theorem ws_X6_addLine : Cond.selects RX6 yX6_addLine yX6_addLine ∈ z_W := z_at1 541 (by decide +kernel) (by decide +kernel)
abbrev mX8_drop : z_M := (yX8_drop, cX8_drop, 1, some FieldType.int)
set_option maxRecDepth 100000 in
theorem wc_X8_drop : Cond.code mX8_drop.1 mX8_drop.2.1 mX8_drop.2.2.1 mX8_drop.2.2.2 ∈ z_W := z_at1 547 (by decide +kernel) (by decide +kernel)
set_option maxRecDepth 100000 in
theorem wm_X8_drop : Cond.instanceMethod yX8_drop ∈ z_W := z_at1 545 (by decide +kernel) (by decide +kernel)
set_option maxRecDepth 100000 in
theorem ws_X8_drop : Cond.selects RX8 yX8_drop yX8_drop ∈ z_W := z_at1 546 (by decide +kernel) (by decide +kernel)
abbrev mX6_dropLine : z_M := (yX6_dropLine, cX6_dropLine, 1, some FieldType.boolean)
set_option maxRecDepth 100000 in
theorem wc_X6_dropLine : Cond.code mX6_dropLine.1 mX6_dropLine.2.1 mX6_dropLine.2.2.1 mX6_dropLine.2.2.2 ∈ z_W := z_at1 551 (by decide +kernel) (by decide +kernel)
set_option maxRecDepth 100000 in
theorem wm_X6_dropLine : Cond.instanceMethod yX6_dropLine ∈ z_W := z_at1 549 (by decide +kernel) (by decide +kernel)
set_option maxRecDepth 100000 in
theorem ws_X6_dropLine : Cond.selects RX6 yX6_dropLine yX6_dropLine ∈ z_W := z_at1 550 (by decide +kernel) (by decide +kernel)
abbrev mX8_lineOf : z_M := (yX8_lineOf, cX8_lineOf, 4, some FieldType.int)
set_option maxRecDepth 100000 in
theorem wc_X8_lineOf : Cond.code mX8_lineOf.1 mX8_lineOf.2.1 mX8_lineOf.2.2.1 mX8_lineOf.2.2.2 ∈ z_W := z_at1 555 (by decide +kernel) (by decide +kernel)
set_option maxRecDepth 100000 in
theorem wm_X8_lineOf : Cond.instanceMethod yX8_lineOf ∈ z_W := z_at1 553 (by decide +kernel) (by decide +kernel)
set_option maxRecDepth 100000 in
theorem ws_X8_lineOf : Cond.selects RX8 yX8_lineOf yX8_lineOf ∈ z_W := z_at1 554 (by decide +kernel) (by decide +kernel)
abbrev mX6_lineAt : z_M := (yX6_lineAt, cX6_lineAt, 2, some (FieldType.object "KnitReader$Line"))
set_option maxRecDepth 100000 in
theorem wc_X6_lineAt : Cond.code mX6_lineAt.1 mX6_lineAt.2.1 mX6_lineAt.2.2.1 mX6_lineAt.2.2.2 ∈ z_W := z_at1 559 (by decide +kernel) (by decide +kernel)
set_option maxRecDepth 100000 in
theorem wm_X6_lineAt : Cond.instanceMethod yX6_lineAt ∈ z_W := z_at1 557 (by decide +kernel) (by decide +kernel)
set_option maxRecDepth 100000 in
theorem ws_X6_lineAt : Cond.selects RX6 yX6_lineAt yX6_lineAt ∈ z_W := z_at1 558 (by decide +kernel) (by decide +kernel)
abbrev mX3_size : z_M := (yX3_size, cX3_size, 1, some FieldType.int)
set_option maxRecDepth 100000 in
theorem wc_X3_size : Cond.code mX3_size.1 mX3_size.2.1 mX3_size.2.2.1 mX3_size.2.2.2 ∈ z_W := z_at1 563 (by decide +kernel) (by decide +kernel)
set_option maxRecDepth 100000 in
theorem wm_X3_size : Cond.instanceMethod yX3_size ∈ z_W := z_at1 561 (by decide +kernel) (by decide +kernel)
set_option maxRecDepth 100000 in
theorem ws_X3_size : Cond.selects RX3 yX3_size yX3_size ∈ z_W := z_at1 562 (by decide +kernel) (by decide +kernel)
abbrev mX8_text : z_M := (yX8_text, cX8_text, 4, some FieldType.int)
set_option maxRecDepth 100000 in
theorem wc_X8_text : Cond.code mX8_text.1 mX8_text.2.1 mX8_text.2.2.1 mX8_text.2.2.2 ∈ z_W := z_at1 567 (by decide +kernel) (by decide +kernel)
set_option maxRecDepth 100000 in
theorem wm_X8_text : Cond.instanceMethod yX8_text ∈ z_W := z_at1 565 (by decide +kernel) (by decide +kernel)
set_option maxRecDepth 100000 in
theorem ws_X8_text : Cond.selects RX8 yX8_text yX8_text ∈ z_W := z_at1 566 (by decide +kernel) (by decide +kernel)
abbrev mX8_mode : z_M := (yX8_mode, cX8_mode, 3, some FieldType.int)
set_option maxRecDepth 100000 in
theorem wc_X8_mode : Cond.code mX8_mode.1 mX8_mode.2.1 mX8_mode.2.2.1 mX8_mode.2.2.2 ∈ z_W := z_at1 572 (by decide +kernel) (by decide +kernel)
set_option maxRecDepth 100000 in
theorem wm_X8_mode : Cond.instanceMethod yX8_mode ∈ z_W := z_at1 570 (by decide +kernel) (by decide +kernel)
set_option maxRecDepth 100000 in
theorem ws_X8_mode : Cond.selects RX8 yX8_mode yX8_mode ∈ z_W := z_at1 571 (by decide +kernel) (by decide +kernel)
abbrev mX8_cast : z_M := (yX8_cast, cX8_cast, 2, some FieldType.int)
set_option maxRecDepth 100000 in
theorem wc_X8_cast : Cond.code mX8_cast.1 mX8_cast.2.1 mX8_cast.2.2.1 mX8_cast.2.2.2 ∈ z_W := z_at1 576 (by decide +kernel) (by decide +kernel)
set_option maxRecDepth 100000 in
theorem wm_X8_cast : Cond.instanceMethod yX8_cast ∈ z_W := z_at1 574 (by decide +kernel) (by decide +kernel)
set_option maxRecDepth 100000 in
theorem ws_X8_cast : Cond.selects RX8 yX8_cast yX8_cast ∈ z_W := z_at1 575 (by decide +kernel) (by decide +kernel)
abbrev mX8_work : z_M := (yX8_work, cX8_work, 3, some FieldType.int)
set_option maxRecDepth 100000 in
theorem wc_X8_work : Cond.code mX8_work.1 mX8_work.2.1 mX8_work.2.2.1 mX8_work.2.2.2 ∈ z_W := z_at1 580 (by decide +kernel) (by decide +kernel)
set_option maxRecDepth 100000 in
theorem wm_X8_work : Cond.instanceMethod yX8_work ∈ z_W := z_at1 578 (by decide +kernel) (by decide +kernel)
set_option maxRecDepth 100000 in
theorem ws_X8_work : Cond.selects RX8 yX8_work yX8_work ∈ z_W := z_at1 579 (by decide +kernel) (by decide +kernel)
abbrev mX8_workInTruth : z_M := (yX8_workInTruth, cX8_workInTruth, 3, some FieldType.boolean)
set_option maxRecDepth 100000 in
theorem wc_X8_workInTruth : Cond.code mX8_workInTruth.1 mX8_workInTruth.2.1 mX8_workInTruth.2.2.1 mX8_workInTruth.2.2.2 ∈ z_W := z_at1 584 (by decide +kernel) (by decide +kernel)
set_option maxRecDepth 100000 in
theorem wm_X8_workInTruth : Cond.instanceMethod yX8_workInTruth ∈ z_W := z_at1 583 (by decide +kernel) (by decide +kernel)
set_option maxRecDepth 100000 in
theorem ws_X8_workInTruth : Cond.selects RX8 yX8_workInTruth yX8_workInTruth ∈ z_W := z_at0 13 (by decide +kernel) (by decide +kernel)
abbrev mX4_stopFilled : z_M := (yX4_stopFilled, cX4_stopFilled, 2, none)
set_option maxRecDepth 100000 in
theorem wc_X4_stopFilled : Cond.code mX4_stopFilled.1 mX4_stopFilled.2.1 mX4_stopFilled.2.2.1 mX4_stopFilled.2.2.2 ∈ z_W := z_at1 588 (by decide +kernel) (by decide +kernel)
set_option maxRecDepth 100000 in
theorem wm_X4_stopFilled : Cond.instanceMethod yX4_stopFilled ∈ z_W := z_at1 586 (by decide +kernel) (by decide +kernel)
set_option maxRecDepth 100000 in
theorem ws_X4_stopFilled : Cond.selects RX4 yX4_stopFilled yX4_stopFilled ∈ z_W := z_at1 587 (by decide +kernel) (by decide +kernel)
abbrev mX4_begin : z_M := (yX4_begin, cX4_begin, 2, none)
set_option maxRecDepth 100000 in
theorem wc_X4_begin : Cond.code mX4_begin.1 mX4_begin.2.1 mX4_begin.2.2.1 mX4_begin.2.2.2 ∈ z_W := z_at1 592 (by decide +kernel) (by decide +kernel)
set_option maxRecDepth 100000 in
theorem wm_X4_begin : Cond.instanceMethod yX4_begin ∈ z_W := z_at1 591 (by decide +kernel) (by decide +kernel)
set_option maxRecDepth 100000 in
theorem ws_X4_begin : Cond.selects RX4 yX4_begin yX4_begin ∈ z_W := z_at0 14 (by decide +kernel) (by decide +kernel)
abbrev mX4_stop : z_M := (yX4_stop, cX4_stop, 4, none)
set_option maxRecDepth 100000 in
theorem wc_X4_stop : Cond.code mX4_stop.1 mX4_stop.2.1 mX4_stop.2.2.1 mX4_stop.2.2.2 ∈ z_W := z_at1 596 (by decide +kernel) (by decide +kernel)
set_option maxRecDepth 100000 in
theorem wm_X4_stop : Cond.instanceMethod yX4_stop ∈ z_W := z_at1 595 (by decide +kernel) (by decide +kernel)
set_option maxRecDepth 100000 in
theorem ws_X4_stop : Cond.selects RX4 yX4_stop yX4_stop ∈ z_W := z_at0 15 (by decide +kernel) (by decide +kernel)
abbrev mX4_workLine : z_M := (yX4_workLine, cX4_workLine, 3, none)
set_option maxRecDepth 100000 in
theorem wc_X4_workLine : Cond.code mX4_workLine.1 mX4_workLine.2.1 mX4_workLine.2.2.1 mX4_workLine.2.2.2 ∈ z_W := z_at1 600 (by decide +kernel) (by decide +kernel)
set_option maxRecDepth 100000 in
theorem wm_X4_workLine : Cond.instanceMethod yX4_workLine ∈ z_W := z_at1 598 (by decide +kernel) (by decide +kernel)
set_option maxRecDepth 100000 in
theorem ws_X4_workLine : Cond.selects RX4 yX4_workLine yX4_workLine ∈ z_W := z_at1 599 (by decide +kernel) (by decide +kernel)
abbrev mX4_workParts : z_M := (yX4_workParts, cX4_workParts, 6, none)
set_option maxRecDepth 100000 in
theorem wc_X4_workParts : Cond.code mX4_workParts.1 mX4_workParts.2.1 mX4_workParts.2.2.1 mX4_workParts.2.2.2 ∈ z_W := z_at1 604 (by decide +kernel) (by decide +kernel)
set_option maxRecDepth 100000 in
theorem wm_X4_workParts : Cond.instanceMethod yX4_workParts ∈ z_W := z_at1 603 (by decide +kernel) (by decide +kernel)
set_option maxRecDepth 100000 in
theorem ws_X4_workParts : Cond.selects RX4 yX4_workParts yX4_workParts ∈ z_W := z_at0 16 (by decide +kernel) (by decide +kernel)
abbrev mX3_sortOf : z_M := (yX3_sortOf, cX3_sortOf, 2, some FieldType.int)
set_option maxRecDepth 100000 in
theorem wc_X3_sortOf : Cond.code mX3_sortOf.1 mX3_sortOf.2.1 mX3_sortOf.2.2.1 mX3_sortOf.2.2.2 ∈ z_W := z_at1 608 (by decide +kernel) (by decide +kernel)
set_option maxRecDepth 100000 in
theorem wm_X3_sortOf : Cond.instanceMethod yX3_sortOf ∈ z_W := z_at1 606 (by decide +kernel) (by decide +kernel)
set_option maxRecDepth 100000 in
theorem ws_X3_sortOf : Cond.selects RX3 yX3_sortOf yX3_sortOf ∈ z_W := z_at1 607 (by decide +kernel) (by decide +kernel)
abbrev mX4_workTimes : z_M := (yX4_workTimes, cX4_workTimes, 7, none)
set_option maxRecDepth 100000 in
theorem wc_X4_workTimes : Cond.code mX4_workTimes.1 mX4_workTimes.2.1 mX4_workTimes.2.2.1 mX4_workTimes.2.2.2 ∈ z_W := z_at1 612 (by decide +kernel) (by decide +kernel)
set_option maxRecDepth 100000 in
theorem wm_X4_workTimes : Cond.instanceMethod yX4_workTimes ∈ z_W := z_at1 611 (by decide +kernel) (by decide +kernel)
set_option maxRecDepth 100000 in
theorem ws_X4_workTimes : Cond.selects RX4 yX4_workTimes yX4_workTimes ∈ z_W := z_at0 17 (by decide +kernel) (by decide +kernel)
abbrev mX3_numberOf : z_M := (yX3_numberOf, cX3_numberOf, 2, some FieldType.int)
set_option maxRecDepth 100000 in
theorem wc_X3_numberOf : Cond.code mX3_numberOf.1 mX3_numberOf.2.1 mX3_numberOf.2.2.1 mX3_numberOf.2.2.2 ∈ z_W := z_at1 616 (by decide +kernel) (by decide +kernel)
set_option maxRecDepth 100000 in
theorem wm_X3_numberOf : Cond.instanceMethod yX3_numberOf ∈ z_W := z_at1 614 (by decide +kernel) (by decide +kernel)
set_option maxRecDepth 100000 in
theorem ws_X3_numberOf : Cond.selects RX3 yX3_numberOf yX3_numberOf ∈ z_W := z_at1 615 (by decide +kernel) (by decide +kernel)
abbrev mX3_placeOf : z_M := (yX3_placeOf, cX3_placeOf, 2, some FieldType.int)
set_option maxRecDepth 100000 in
theorem wc_X3_placeOf : Cond.code mX3_placeOf.1 mX3_placeOf.2.1 mX3_placeOf.2.2.1 mX3_placeOf.2.2.2 ∈ z_W := z_at1 620 (by decide +kernel) (by decide +kernel)
set_option maxRecDepth 100000 in
theorem wm_X3_placeOf : Cond.instanceMethod yX3_placeOf ∈ z_W := z_at1 618 (by decide +kernel) (by decide +kernel)
set_option maxRecDepth 100000 in
theorem ws_X3_placeOf : Cond.selects RX3 yX3_placeOf yX3_placeOf ∈ z_W := z_at1 619 (by decide +kernel) (by decide +kernel)
abbrev mX4_enter : z_M := (yX4_enter, cX4_enter, 4, none)
set_option maxRecDepth 100000 in
theorem wc_X4_enter : Cond.code mX4_enter.1 mX4_enter.2.1 mX4_enter.2.2.1 mX4_enter.2.2.2 ∈ z_W := z_at1 624 (by decide +kernel) (by decide +kernel)
set_option maxRecDepth 100000 in
theorem wm_X4_enter : Cond.instanceMethod yX4_enter ∈ z_W := z_at1 623 (by decide +kernel) (by decide +kernel)
set_option maxRecDepth 100000 in
theorem ws_X4_enter : Cond.selects RX4 yX4_enter yX4_enter ∈ z_W := z_at0 18 (by decide +kernel) (by decide +kernel)
abbrev mX3_endOf : z_M := (yX3_endOf, cX3_endOf, 2, some FieldType.int)
set_option maxRecDepth 100000 in
theorem wc_X3_endOf : Cond.code mX3_endOf.1 mX3_endOf.2.1 mX3_endOf.2.2.1 mX3_endOf.2.2.2 ∈ z_W := z_at1 628 (by decide +kernel) (by decide +kernel)
set_option maxRecDepth 100000 in
theorem wm_X3_endOf : Cond.instanceMethod yX3_endOf ∈ z_W := z_at1 626 (by decide +kernel) (by decide +kernel)
set_option maxRecDepth 100000 in
theorem ws_X3_endOf : Cond.selects RX3 yX3_endOf yX3_endOf ∈ z_W := z_at1 627 (by decide +kernel) (by decide +kernel)
abbrev mX4_workTill : z_M := (yX4_workTill, cX4_workTill, 7, none)
set_option maxRecDepth 100000 in
theorem wc_X4_workTill : Cond.code mX4_workTill.1 mX4_workTill.2.1 mX4_workTill.2.2.1 mX4_workTill.2.2.2 ∈ z_W := z_at1 632 (by decide +kernel) (by decide +kernel)
set_option maxRecDepth 100000 in
theorem wm_X4_workTill : Cond.instanceMethod yX4_workTill ∈ z_W := z_at1 631 (by decide +kernel) (by decide +kernel)
set_option maxRecDepth 100000 in
theorem ws_X4_workTill : Cond.selects RX4 yX4_workTill yX4_workTill ∈ z_W := z_at0 19 (by decide +kernel) (by decide +kernel)
abbrev mX4_workWord : z_M := (yX4_workWord, cX4_workWord, 10, none)
set_option maxRecDepth 100000 in
theorem wc_X4_workWord : Cond.code mX4_workWord.1 mX4_workWord.2.1 mX4_workWord.2.2.1 mX4_workWord.2.2.2 ∈ z_W := z_at1 636 (by decide +kernel) (by decide +kernel)
set_option maxRecDepth 100000 in
theorem wm_X4_workWord : Cond.instanceMethod yX4_workWord ∈ z_W := z_at1 635 (by decide +kernel) (by decide +kernel)
set_option maxRecDepth 100000 in
theorem ws_X4_workWord : Cond.selects RX4 yX4_workWord yX4_workWord ∈ z_W := z_at0 20 (by decide +kernel) (by decide +kernel)
abbrev mX4_hitchOf : z_M := (yX4_hitchOf, cX4_hitchOf, 3, some FieldType.int)
set_option maxRecDepth 100000 in
theorem wc_X4_hitchOf : Cond.code mX4_hitchOf.1 mX4_hitchOf.2.1 mX4_hitchOf.2.2.1 mX4_hitchOf.2.2.2 ∈ z_W := z_at1 642 (by decide +kernel) (by decide +kernel)
set_option maxRecDepth 100000 in
theorem wm_X4_hitchOf : Cond.instanceMethod yX4_hitchOf ∈ z_W := z_at1 641 (by decide +kernel) (by decide +kernel)
set_option maxRecDepth 100000 in
theorem ws_X4_hitchOf : Cond.selects RX4 yX4_hitchOf yX4_hitchOf ∈ z_W := z_at0 21 (by decide +kernel) (by decide +kernel)
abbrev mX7_addKind : z_M := (yX7_addKind, cX7_addKind, 2, none)
set_option maxRecDepth 100000 in
theorem wc_X7_addKind : Cond.code mX7_addKind.1 mX7_addKind.2.1 mX7_addKind.2.2.1 mX7_addKind.2.2.2 ∈ z_W := z_at1 646 (by decide +kernel) (by decide +kernel)
set_option maxRecDepth 100000 in
theorem wm_X7_addKind : Cond.instanceMethod yX7_addKind ∈ z_W := z_at1 644 (by decide +kernel) (by decide +kernel)
set_option maxRecDepth 100000 in
theorem ws_X7_addKind : Cond.selects RX7 yX7_addKind yX7_addKind ∈ z_W := z_at1 645 (by decide +kernel) (by decide +kernel)
abbrev mX4_isHitched : z_M := (yX4_isHitched, cX4_isHitched, 1, some FieldType.boolean)
set_option maxRecDepth 100000 in
theorem wc_X4_isHitched : Cond.code mX4_isHitched.1 mX4_isHitched.2.1 mX4_isHitched.2.2.1 mX4_isHitched.2.2.2 ∈ z_W := z_at1 652 (by decide +kernel) (by decide +kernel)
set_option maxRecDepth 100000 in
theorem wm_X4_isHitched : Cond.instanceMethod yX4_isHitched ∈ z_W := z_at1 650 (by decide +kernel) (by decide +kernel)
set_option maxRecDepth 100000 in
theorem ws_X4_isHitched : Cond.selects RX4 yX4_isHitched yX4_isHitched ∈ z_W := z_at1 651 (by decide +kernel) (by decide +kernel)
abbrev mX6_addDone : z_M := (yX6_addDone, cX6_addDone, 4, some FieldType.boolean)
set_option maxRecDepth 100000 in
theorem wc_X6_addDone : Cond.code mX6_addDone.1 mX6_addDone.2.1 mX6_addDone.2.2.1 mX6_addDone.2.2.2 ∈ z_W := z_at1 656 (by decide +kernel) (by decide +kernel)
set_option maxRecDepth 100000 in
theorem wm_X6_addDone : Cond.instanceMethod yX6_addDone ∈ z_W := z_at1 654 (by decide +kernel) (by decide +kernel)
set_option maxRecDepth 100000 in
theorem ws_X6_addDone : Cond.selects RX6 yX6_addDone yX6_addDone ∈ z_W := z_at1 655 (by decide +kernel) (by decide +kernel)
abbrev mX7_takeFrom : z_M := (yX7_takeFrom, cX7_takeFrom, 3, none)
set_option maxRecDepth 100000 in
theorem wc_X7_takeFrom : Cond.code mX7_takeFrom.1 mX7_takeFrom.2.1 mX7_takeFrom.2.2.1 mX7_takeFrom.2.2.2 ∈ z_W := z_at1 660 (by decide +kernel) (by decide +kernel)
set_option maxRecDepth 100000 in
theorem wm_X7_takeFrom : Cond.instanceMethod yX7_takeFrom ∈ z_W := z_at1 658 (by decide +kernel) (by decide +kernel)
set_option maxRecDepth 100000 in
theorem ws_X7_takeFrom : Cond.selects RX7 yX7_takeFrom yX7_takeFrom ∈ z_W := z_at1 659 (by decide +kernel) (by decide +kernel)
abbrev mX0_begin : z_M := (yX0_begin, cX0_begin, 1, none)
set_option maxRecDepth 100000 in
theorem wc_X0_begin : Cond.code mX0_begin.1 mX0_begin.2.1 mX0_begin.2.2.1 mX0_begin.2.2.2 ∈ z_W := z_at1 667 (by decide +kernel) (by decide +kernel)
set_option maxRecDepth 100000 in
theorem wm_X0_begin : Cond.instanceMethod yX0_begin ∈ z_W := z_at1 665 (by decide +kernel) (by decide +kernel)
set_option maxRecDepth 100000 in
theorem ws_X0_begin : Cond.selects RX0 yX0_begin yX0_begin ∈ z_W := z_at1 666 (by decide +kernel) (by decide +kernel)
abbrev mX8_keepWhy : z_M := (yX8_keepWhy, cX8_keepWhy, 3, none)
set_option maxRecDepth 100000 in
theorem wc_X8_keepWhy : Cond.code mX8_keepWhy.1 mX8_keepWhy.2.1 mX8_keepWhy.2.2.1 mX8_keepWhy.2.2.2 ∈ z_W := z_at1 671 (by decide +kernel) (by decide +kernel)
set_option maxRecDepth 100000 in
theorem wm_X8_keepWhy : Cond.instanceMethod yX8_keepWhy ∈ z_W := z_at1 670 (by decide +kernel) (by decide +kernel)
set_option maxRecDepth 100000 in
theorem ws_X8_keepWhy : Cond.selects RX8 yX8_keepWhy yX8_keepWhy ∈ z_W := z_at0 22 (by decide +kernel) (by decide +kernel)
abbrev mX0_addLink : z_M := (yX0_addLink, cX0_addLink, 5, none)
set_option maxRecDepth 100000 in
theorem wc_X0_addLink : Cond.code mX0_addLink.1 mX0_addLink.2.1 mX0_addLink.2.2.1 mX0_addLink.2.2.2 ∈ z_W := z_at1 675 (by decide +kernel) (by decide +kernel)
set_option maxRecDepth 100000 in
theorem wm_X0_addLink : Cond.instanceMethod yX0_addLink ∈ z_W := z_at1 673 (by decide +kernel) (by decide +kernel)
set_option maxRecDepth 100000 in
theorem ws_X0_addLink : Cond.selects RX0 yX0_addLink yX0_addLink ∈ z_W := z_at1 674 (by decide +kernel) (by decide +kernel)
abbrev mX4_groupPlaceAt : z_M := (yX4_groupPlaceAt, cX4_groupPlaceAt, 2, some FieldType.int)
set_option maxRecDepth 100000 in
theorem wc_X4_groupPlaceAt : Cond.code mX4_groupPlaceAt.1 mX4_groupPlaceAt.2.1 mX4_groupPlaceAt.2.2.1 mX4_groupPlaceAt.2.2.2 ∈ z_W := z_at1 679 (by decide +kernel) (by decide +kernel)
set_option maxRecDepth 100000 in
theorem wm_X4_groupPlaceAt : Cond.instanceMethod yX4_groupPlaceAt ∈ z_W := z_at1 677 (by decide +kernel) (by decide +kernel)
set_option maxRecDepth 100000 in
theorem ws_X4_groupPlaceAt : Cond.selects RX4 yX4_groupPlaceAt yX4_groupPlaceAt ∈ z_W := z_at1 678 (by decide +kernel) (by decide +kernel)
abbrev mX4_groupTimeAt : z_M := (yX4_groupTimeAt, cX4_groupTimeAt, 2, some FieldType.int)
set_option maxRecDepth 100000 in
theorem wc_X4_groupTimeAt : Cond.code mX4_groupTimeAt.1 mX4_groupTimeAt.2.1 mX4_groupTimeAt.2.2.1 mX4_groupTimeAt.2.2.2 ∈ z_W := z_at1 683 (by decide +kernel) (by decide +kernel)
set_option maxRecDepth 100000 in
theorem wm_X4_groupTimeAt : Cond.instanceMethod yX4_groupTimeAt ∈ z_W := z_at1 681 (by decide +kernel) (by decide +kernel)
set_option maxRecDepth 100000 in
theorem ws_X4_groupTimeAt : Cond.selects RX4 yX4_groupTimeAt yX4_groupTimeAt ∈ z_W := z_at1 682 (by decide +kernel) (by decide +kernel)
abbrev mX8_run : z_M := (yX8_run, cX8_run, 8, some FieldType.int)
set_option maxRecDepth 100000 in
theorem wc_X8_run : Cond.code mX8_run.1 mX8_run.2.1 mX8_run.2.2.1 mX8_run.2.2.2 ∈ z_W := z_at1 687 (by decide +kernel) (by decide +kernel)
set_option maxRecDepth 100000 in
theorem wm_X8_run : Cond.instanceMethod yX8_run ∈ z_W := z_at1 685 (by decide +kernel) (by decide +kernel)
set_option maxRecDepth 100000 in
theorem ws_X8_run : Cond.selects RX8 yX8_run yX8_run ∈ z_W := z_at1 686 (by decide +kernel) (by decide +kernel)
abbrev mX6_isSpan : z_M := (yX6_isSpan, cX6_isSpan, 3, some FieldType.boolean)
set_option maxRecDepth 100000 in
theorem wc_X6_isSpan : Cond.code mX6_isSpan.1 mX6_isSpan.2.1 mX6_isSpan.2.2.1 mX6_isSpan.2.2.2 ∈ z_W := z_at1 691 (by decide +kernel) (by decide +kernel)
set_option maxRecDepth 100000 in
theorem wm_X6_isSpan : Cond.instanceMethod yX6_isSpan ∈ z_W := z_at1 689 (by decide +kernel) (by decide +kernel)
set_option maxRecDepth 100000 in
theorem ws_X6_isSpan : Cond.selects RX6 yX6_isSpan yX6_isSpan ∈ z_W := z_at1 690 (by decide +kernel) (by decide +kernel)
abbrev mX8_rip : z_M := (yX8_rip, cX8_rip, 2, some FieldType.int)
set_option maxRecDepth 100000 in
theorem wc_X8_rip : Cond.code mX8_rip.1 mX8_rip.2.1 mX8_rip.2.2.1 mX8_rip.2.2.2 ∈ z_W := z_at1 695 (by decide +kernel) (by decide +kernel)
set_option maxRecDepth 100000 in
theorem wm_X8_rip : Cond.instanceMethod yX8_rip ∈ z_W := z_at1 693 (by decide +kernel) (by decide +kernel)
set_option maxRecDepth 100000 in
theorem ws_X8_rip : Cond.selects RX8 yX8_rip yX8_rip ∈ z_W := z_at1 694 (by decide +kernel) (by decide +kernel)
abbrev mX6_ripBack : z_M := (yX6_ripBack, cX6_ripBack, 3, none)
set_option maxRecDepth 100000 in
theorem wc_X6_ripBack : Cond.code mX6_ripBack.1 mX6_ripBack.2.1 mX6_ripBack.2.2.1 mX6_ripBack.2.2.2 ∈ z_W := z_at1 699 (by decide +kernel) (by decide +kernel)
set_option maxRecDepth 100000 in
theorem wm_X6_ripBack : Cond.instanceMethod yX6_ripBack ∈ z_W := z_at1 697 (by decide +kernel) (by decide +kernel)
set_option maxRecDepth 100000 in
theorem ws_X6_ripBack : Cond.selects RX6 yX6_ripBack yX6_ripBack ∈ z_W := z_at1 698 (by decide +kernel) (by decide +kernel)
abbrev mX7_takenAhead : z_M := (yX7_takenAhead, cX7_takenAhead, 4, some FieldType.int)
set_option maxRecDepth 100000 in
theorem wc_X7_takenAhead : Cond.code mX7_takenAhead.1 mX7_takenAhead.2.1 mX7_takenAhead.2.2.1 mX7_takenAhead.2.2.2 ∈ z_W := z_at1 705 (by decide +kernel) (by decide +kernel)
set_option maxRecDepth 100000 in
theorem wm_X7_takenAhead : Cond.instanceMethod yX7_takenAhead ∈ z_W := z_at1 703 (by decide +kernel) (by decide +kernel)
set_option maxRecDepth 100000 in
theorem ws_X7_takenAhead : Cond.selects RX7 yX7_takenAhead yX7_takenAhead ∈ z_W := z_at1 704 (by decide +kernel) (by decide +kernel)
abbrev mX8_causes : z_M := (yX8_causes, cX8_causes, 1, some FieldType.int)
set_option maxRecDepth 100000 in
theorem wc_X8_causes : Cond.code mX8_causes.1 mX8_causes.2.1 mX8_causes.2.2.1 mX8_causes.2.2.2 ∈ z_W := z_at1 711 (by decide +kernel) (by decide +kernel)
set_option maxRecDepth 100000 in
theorem wm_X8_causes : Cond.instanceMethod yX8_causes ∈ z_W := z_at1 709 (by decide +kernel) (by decide +kernel)
set_option maxRecDepth 100000 in
theorem ws_X8_causes : Cond.selects RX8 yX8_causes yX8_causes ∈ z_W := z_at1 710 (by decide +kernel) (by decide +kernel)
abbrev mX8_why : z_M := (yX8_why, cX8_why, 3, some FieldType.int)
set_option maxRecDepth 100000 in
theorem wc_X8_why : Cond.code mX8_why.1 mX8_why.2.1 mX8_why.2.2.1 mX8_why.2.2.2 ∈ z_W := z_at1 715 (by decide +kernel) (by decide +kernel)
set_option maxRecDepth 100000 in
theorem wm_X8_why : Cond.instanceMethod yX8_why ∈ z_W := z_at1 713 (by decide +kernel) (by decide +kernel)
set_option maxRecDepth 100000 in
theorem ws_X8_why : Cond.selects RX8 yX8_why yX8_why ∈ z_W := z_at1 714 (by decide +kernel) (by decide +kernel)
abbrev mX0_hasNumber : z_M := (yX0_hasNumber, cX0_hasNumber, 3, some FieldType.boolean)
set_option maxRecDepth 100000 in
theorem wc_X0_hasNumber : Cond.code mX0_hasNumber.1 mX0_hasNumber.2.1 mX0_hasNumber.2.2.1 mX0_hasNumber.2.2.2 ∈ z_W := z_at1 719 (by decide +kernel) (by decide +kernel)
set_option maxRecDepth 100000 in
theorem wm_X0_hasNumber : Cond.instanceMethod yX0_hasNumber ∈ z_W := z_at1 717 (by decide +kernel) (by decide +kernel)
set_option maxRecDepth 100000 in
theorem ws_X0_hasNumber : Cond.selects RX0 yX0_hasNumber yX0_hasNumber ∈ z_W := z_at1 718 (by decide +kernel) (by decide +kernel)
abbrev mX0_numberAt : z_M := (yX0_numberAt, cX0_numberAt, 4, some FieldType.int)
set_option maxRecDepth 100000 in
theorem wc_X0_numberAt : Cond.code mX0_numberAt.1 mX0_numberAt.2.1 mX0_numberAt.2.2.1 mX0_numberAt.2.2.2 ∈ z_W := z_at1 723 (by decide +kernel) (by decide +kernel)
set_option maxRecDepth 100000 in
theorem wm_X0_numberAt : Cond.instanceMethod yX0_numberAt ∈ z_W := z_at1 721 (by decide +kernel) (by decide +kernel)
set_option maxRecDepth 100000 in
theorem ws_X0_numberAt : Cond.selects RX0 yX0_numberAt yX0_numberAt ∈ z_W := z_at1 722 (by decide +kernel) (by decide +kernel)
abbrev mX8_would : z_M := (yX8_would, cX8_would, 5, some FieldType.int)
set_option maxRecDepth 100000 in
theorem wc_X8_would : Cond.code mX8_would.1 mX8_would.2.1 mX8_would.2.2.1 mX8_would.2.2.2 ∈ z_W := z_at1 727 (by decide +kernel) (by decide +kernel)
set_option maxRecDepth 100000 in
theorem wm_X8_would : Cond.instanceMethod yX8_would ∈ z_W := z_at1 725 (by decide +kernel) (by decide +kernel)
set_option maxRecDepth 100000 in
theorem ws_X8_would : Cond.selects RX8 yX8_would yX8_would ∈ z_W := z_at1 726 (by decide +kernel) (by decide +kernel)
abbrev mX7_yarnUsed : z_M := (yX7_yarnUsed, cX7_yarnUsed, 3, some FieldType.int)
set_option maxRecDepth 100000 in
theorem wc_X7_yarnUsed : Cond.code mX7_yarnUsed.1 mX7_yarnUsed.2.1 mX7_yarnUsed.2.2.1 mX7_yarnUsed.2.2.2 ∈ z_W := z_at1 731 (by decide +kernel) (by decide +kernel)
set_option maxRecDepth 100000 in
theorem wm_X7_yarnUsed : Cond.instanceMethod yX7_yarnUsed ∈ z_W := z_at1 729 (by decide +kernel) (by decide +kernel)
set_option maxRecDepth 100000 in
theorem ws_X7_yarnUsed : Cond.selects RX7 yX7_yarnUsed yX7_yarnUsed ∈ z_W := z_at1 730 (by decide +kernel) (by decide +kernel)
abbrev mX8_hitch : z_M := (yX8_hitch, cX8_hitch, 4, some FieldType.int)
set_option maxRecDepth 100000 in
theorem wc_X8_hitch : Cond.code mX8_hitch.1 mX8_hitch.2.1 mX8_hitch.2.2.1 mX8_hitch.2.2.2 ∈ z_W := z_at1 736 (by decide +kernel) (by decide +kernel)
set_option maxRecDepth 100000 in
theorem wm_X8_hitch : Cond.instanceMethod yX8_hitch ∈ z_W := z_at1 734 (by decide +kernel) (by decide +kernel)
set_option maxRecDepth 100000 in
theorem ws_X8_hitch : Cond.selects RX8 yX8_hitch yX8_hitch ∈ z_W := z_at1 735 (by decide +kernel) (by decide +kernel)
abbrev mX8_fits : z_M := (yX8_fits, cX8_fits, 6, some FieldType.long)
set_option maxRecDepth 100000 in
theorem wc_X8_fits : Cond.code mX8_fits.1 mX8_fits.2.1 mX8_fits.2.2.1 mX8_fits.2.2.2 ∈ z_W := z_at1 740 (by decide +kernel) (by decide +kernel)
set_option maxRecDepth 100000 in
theorem wm_X8_fits : Cond.instanceMethod yX8_fits ∈ z_W := z_at1 738 (by decide +kernel) (by decide +kernel)
set_option maxRecDepth 100000 in
theorem ws_X8_fits : Cond.selects RX8 yX8_fits yX8_fits ∈ z_W := z_at1 739 (by decide +kernel) (by decide +kernel)
abbrev mX8_refuseLong : z_M := (yX8_refuseLong, cX8_refuseLong, 2, some FieldType.long)
set_option maxRecDepth 100000 in
theorem wc_X8_refuseLong : Cond.code mX8_refuseLong.1 mX8_refuseLong.2.1 mX8_refuseLong.2.2.1 mX8_refuseLong.2.2.2 ∈ z_W := z_at1 744 (by decide +kernel) (by decide +kernel)
set_option maxRecDepth 100000 in
theorem wm_X8_refuseLong : Cond.instanceMethod yX8_refuseLong ∈ z_W := z_at1 743 (by decide +kernel) (by decide +kernel)
set_option maxRecDepth 100000 in
theorem ws_X8_refuseLong : Cond.selects RX8 yX8_refuseLong yX8_refuseLong ∈ z_W := z_at0 23 (by decide +kernel) (by decide +kernel)
abbrev mX8_least : z_M := (yX8_least, cX8_least, 2, some FieldType.int)
set_option maxRecDepth 100000 in
theorem wc_X8_least : Cond.code mX8_least.1 mX8_least.2.1 mX8_least.2.2.1 mX8_least.2.2.2 ∈ z_W := z_at1 749 (by decide +kernel) (by decide +kernel)
set_option maxRecDepth 100000 in
theorem wm_X8_least : Cond.instanceMethod yX8_least ∈ z_W := z_at1 747 (by decide +kernel) (by decide +kernel)
set_option maxRecDepth 100000 in
theorem ws_X8_least : Cond.selects RX8 yX8_least yX8_least ∈ z_W := z_at1 748 (by decide +kernel) (by decide +kernel)
abbrev mX8_countBehind : z_M := (yX8_countBehind, cX8_countBehind, 7, some FieldType.int)
set_option maxRecDepth 100000 in
theorem wc_X8_countBehind : Cond.code mX8_countBehind.1 mX8_countBehind.2.1 mX8_countBehind.2.2.1 mX8_countBehind.2.2.2 ∈ z_W := z_at1 753 (by decide +kernel) (by decide +kernel)
set_option maxRecDepth 100000 in
theorem wm_X8_countBehind : Cond.instanceMethod yX8_countBehind ∈ z_W := z_at1 752 (by decide +kernel) (by decide +kernel)
set_option maxRecDepth 100000 in
theorem ws_X8_countBehind : Cond.selects RX8 yX8_countBehind yX8_countBehind ∈ z_W := z_at0 24 (by decide +kernel) (by decide +kernel)
abbrev mX8_times : z_M := (yX8_times, cX8_times, 7, some FieldType.int)
set_option maxRecDepth 100000 in
theorem wc_X8_times : Cond.code mX8_times.1 mX8_times.2.1 mX8_times.2.2.1 mX8_times.2.2.2 ∈ z_W := z_at1 757 (by decide +kernel) (by decide +kernel)
set_option maxRecDepth 100000 in
theorem wm_X8_times : Cond.instanceMethod yX8_times ∈ z_W := z_at1 755 (by decide +kernel) (by decide +kernel)
set_option maxRecDepth 100000 in
theorem ws_X8_times : Cond.selects RX8 yX8_times yX8_times ∈ z_W := z_at1 756 (by decide +kernel) (by decide +kernel)
abbrev mX8_workedOf : z_M := (yX8_workedOf, cX8_workedOf, 5, some FieldType.int)
set_option maxRecDepth 100000 in
theorem wc_X8_workedOf : Cond.code mX8_workedOf.1 mX8_workedOf.2.1 mX8_workedOf.2.2.1 mX8_workedOf.2.2.2 ∈ z_W := z_at1 761 (by decide +kernel) (by decide +kernel)
set_option maxRecDepth 100000 in
theorem wm_X8_workedOf : Cond.instanceMethod yX8_workedOf ∈ z_W := z_at1 759 (by decide +kernel) (by decide +kernel)
set_option maxRecDepth 100000 in
theorem ws_X8_workedOf : Cond.selects RX8 yX8_workedOf yX8_workedOf ∈ z_W := z_at1 760 (by decide +kernel) (by decide +kernel)
abbrev mX7_madeAhead : z_M := (yX7_madeAhead, cX7_madeAhead, 4, some FieldType.int)
set_option maxRecDepth 100000 in
theorem wc_X7_madeAhead : Cond.code mX7_madeAhead.1 mX7_madeAhead.2.1 mX7_madeAhead.2.2.1 mX7_madeAhead.2.2.2 ∈ z_W := z_at1 766 (by decide +kernel) (by decide +kernel)
set_option maxRecDepth 100000 in
theorem wm_X7_madeAhead : Cond.instanceMethod yX7_madeAhead ∈ z_W := z_at1 764 (by decide +kernel) (by decide +kernel)
set_option maxRecDepth 100000 in
theorem ws_X7_madeAhead : Cond.selects RX7 yX7_madeAhead yX7_madeAhead ∈ z_W := z_at1 765 (by decide +kernel) (by decide +kernel)
abbrev mX8_stitch : z_M := (yX8_stitch, cX8_stitch, 5, some FieldType.int)
set_option maxRecDepth 100000 in
theorem wc_X8_stitch : Cond.code mX8_stitch.1 mX8_stitch.2.1 mX8_stitch.2.2.1 mX8_stitch.2.2.2 ∈ z_W := z_at1 771 (by decide +kernel) (by decide +kernel)
set_option maxRecDepth 100000 in
theorem wm_X8_stitch : Cond.instanceMethod yX8_stitch ∈ z_W := z_at1 769 (by decide +kernel) (by decide +kernel)
set_option maxRecDepth 100000 in
theorem ws_X8_stitch : Cond.selects RX8 yX8_stitch yX8_stitch ∈ z_W := z_at1 770 (by decide +kernel) (by decide +kernel)
abbrev mX8_chart : z_M := (yX8_chart, cX8_chart, 4, some FieldType.int)
set_option maxRecDepth 100000 in
theorem wc_X8_chart : Cond.code mX8_chart.1 mX8_chart.2.1 mX8_chart.2.2.1 mX8_chart.2.2.2 ∈ z_W := z_at1 775 (by decide +kernel) (by decide +kernel)
set_option maxRecDepth 100000 in
theorem wm_X8_chart : Cond.instanceMethod yX8_chart ∈ z_W := z_at1 773 (by decide +kernel) (by decide +kernel)
set_option maxRecDepth 100000 in
theorem ws_X8_chart : Cond.selects RX8 yX8_chart yX8_chart ∈ z_W := z_at1 774 (by decide +kernel) (by decide +kernel)
abbrev mX1_chartAt : z_M := (yX1_chartAt, cX1_chartAt, 2, some FieldType.int)
set_option maxRecDepth 100000 in
theorem wc_X1_chartAt : Cond.code mX1_chartAt.1 mX1_chartAt.2.1 mX1_chartAt.2.2.1 mX1_chartAt.2.2.2 ∈ z_W := z_at1 779 (by decide +kernel) (by decide +kernel)
set_option maxRecDepth 100000 in
theorem wm_X1_chartAt : Cond.instanceMethod yX1_chartAt ∈ z_W := z_at1 777 (by decide +kernel) (by decide +kernel)
set_option maxRecDepth 100000 in
theorem ws_X1_chartAt : Cond.selects RX1 yX1_chartAt yX1_chartAt ∈ z_W := z_at1 778 (by decide +kernel) (by decide +kernel)
abbrev mX8_shorthand : z_M := (yX8_shorthand, cX8_shorthand, 4, some FieldType.int)
set_option maxRecDepth 100000 in
theorem wc_X8_shorthand : Cond.code mX8_shorthand.1 mX8_shorthand.2.1 mX8_shorthand.2.2.1 mX8_shorthand.2.2.2 ∈ z_W := z_at1 785 (by decide +kernel) (by decide +kernel)
set_option maxRecDepth 100000 in
theorem wm_X8_shorthand : Cond.instanceMethod yX8_shorthand ∈ z_W := z_at1 783 (by decide +kernel) (by decide +kernel)
set_option maxRecDepth 100000 in
theorem ws_X8_shorthand : Cond.selects RX8 yX8_shorthand yX8_shorthand ∈ z_W := z_at1 784 (by decide +kernel) (by decide +kernel)
abbrev mX7_shorthandAt : z_M := (yX7_shorthandAt, cX7_shorthandAt, 7, some FieldType.int)
set_option maxRecDepth 100000 in
theorem wc_X7_shorthandAt : Cond.code mX7_shorthandAt.1 mX7_shorthandAt.2.1 mX7_shorthandAt.2.2.1 mX7_shorthandAt.2.2.2 ∈ z_W := z_at1 789 (by decide +kernel) (by decide +kernel)
set_option maxRecDepth 100000 in
theorem wm_X7_shorthandAt : Cond.instanceMethod yX7_shorthandAt ∈ z_W := z_at1 787 (by decide +kernel) (by decide +kernel)
set_option maxRecDepth 100000 in
theorem ws_X7_shorthandAt : Cond.selects RX7 yX7_shorthandAt yX7_shorthandAt ∈ z_W := z_at1 788 (by decide +kernel) (by decide +kernel)
abbrev mX7_runLength : z_M := (yX7_runLength, cX7_runLength, 3, some FieldType.int)
set_option maxRecDepth 100000 in
theorem wc_X7_runLength : Cond.code mX7_runLength.1 mX7_runLength.2.1 mX7_runLength.2.2.1 mX7_runLength.2.2.2 ∈ z_W := z_at1 796 (by decide +kernel) (by decide +kernel)
set_option maxRecDepth 100000 in
theorem wm_X7_runLength : Cond.instanceMethod yX7_runLength ∈ z_W := z_at1 795 (by decide +kernel) (by decide +kernel)
set_option maxRecDepth 100000 in
theorem ws_X7_runLength : Cond.selects RX7 yX7_runLength yX7_runLength ∈ z_W := z_at0 25 (by decide +kernel) (by decide +kernel)
abbrev mX7_digitsOf : z_M := (yX7_digitsOf, cX7_digitsOf, 1, some FieldType.int)
set_option maxRecDepth 100000 in
theorem wc_X7_digitsOf : Cond.code mX7_digitsOf.1 mX7_digitsOf.2.1 mX7_digitsOf.2.2.1 mX7_digitsOf.2.2.2 ∈ z_W := z_at1 799 (by decide +kernel) (by decide +kernel)
set_option maxRecDepth 100000 in
theorem wt_X7_digitsOf : Cond.static yX7_digitsOf ∈ z_W := z_at1 798 (by decide +kernel) (by decide +kernel)
abbrev mX7_digitAt : z_M := (yX7_digitAt, cX7_digitAt, 4, some FieldType.int)
set_option maxRecDepth 100000 in
theorem wc_X7_digitAt : Cond.code mX7_digitAt.1 mX7_digitAt.2.1 mX7_digitAt.2.2.1 mX7_digitAt.2.2.2 ∈ z_W := z_at1 802 (by decide +kernel) (by decide +kernel)
set_option maxRecDepth 100000 in
theorem wt_X7_digitAt : Cond.static yX7_digitAt ∈ z_W := z_at1 801 (by decide +kernel) (by decide +kernel)
abbrev mX8_unit : z_M := (yX8_unit, cX8_unit, 3, some FieldType.int)
set_option maxRecDepth 100000 in
theorem wc_X8_unit : Cond.code mX8_unit.1 mX8_unit.2.1 mX8_unit.2.2.1 mX8_unit.2.2.2 ∈ z_W := z_at1 806 (by decide +kernel) (by decide +kernel)
set_option maxRecDepth 100000 in
theorem wm_X8_unit : Cond.instanceMethod yX8_unit ∈ z_W := z_at1 804 (by decide +kernel) (by decide +kernel)
set_option maxRecDepth 100000 in
theorem ws_X8_unit : Cond.selects RX8 yX8_unit yX8_unit ∈ z_W := z_at1 805 (by decide +kernel) (by decide +kernel)
abbrev mX7_smallestPart : z_M := (yX7_smallestPart, cX7_smallestPart, 2, some FieldType.int)
set_option maxRecDepth 100000 in
theorem wc_X7_smallestPart : Cond.code mX7_smallestPart.1 mX7_smallestPart.2.1 mX7_smallestPart.2.2.1 mX7_smallestPart.2.2.2 ∈ z_W := z_at1 810 (by decide +kernel) (by decide +kernel)
set_option maxRecDepth 100000 in
theorem wm_X7_smallestPart : Cond.instanceMethod yX7_smallestPart ∈ z_W := z_at1 808 (by decide +kernel) (by decide +kernel)
set_option maxRecDepth 100000 in
theorem ws_X7_smallestPart : Cond.selects RX7 yX7_smallestPart yX7_smallestPart ∈ z_W := z_at1 809 (by decide +kernel) (by decide +kernel)
abbrev mX7_comesAgain : z_M := (yX7_comesAgain, cX7_comesAgain, 3, some FieldType.boolean)
set_option maxRecDepth 100000 in
theorem wc_X7_comesAgain : Cond.code mX7_comesAgain.1 mX7_comesAgain.2.1 mX7_comesAgain.2.2.1 mX7_comesAgain.2.2.2 ∈ z_W := z_at1 814 (by decide +kernel) (by decide +kernel)
set_option maxRecDepth 100000 in
theorem wm_X7_comesAgain : Cond.instanceMethod yX7_comesAgain ∈ z_W := z_at1 813 (by decide +kernel) (by decide +kernel)
set_option maxRecDepth 100000 in
theorem ws_X7_comesAgain : Cond.selects RX7 yX7_comesAgain yX7_comesAgain ∈ z_W := z_at0 26 (by decide +kernel) (by decide +kernel)
abbrev mX8_mirrored : z_M := (yX8_mirrored, cX8_mirrored, 4, some FieldType.int)
set_option maxRecDepth 100000 in
theorem wc_X8_mirrored : Cond.code mX8_mirrored.1 mX8_mirrored.2.1 mX8_mirrored.2.2.1 mX8_mirrored.2.2.2 ∈ z_W := z_at1 818 (by decide +kernel) (by decide +kernel)
set_option maxRecDepth 100000 in
theorem wm_X8_mirrored : Cond.instanceMethod yX8_mirrored ∈ z_W := z_at1 816 (by decide +kernel) (by decide +kernel)
set_option maxRecDepth 100000 in
theorem ws_X8_mirrored : Cond.selects RX8 yX8_mirrored yX8_mirrored ∈ z_W := z_at1 817 (by decide +kernel) (by decide +kernel)
abbrev mX7_mirroredAt : z_M := (yX7_mirroredAt, cX7_mirroredAt, 2, some FieldType.int)
set_option maxRecDepth 100000 in
theorem wc_X7_mirroredAt : Cond.code mX7_mirroredAt.1 mX7_mirroredAt.2.1 mX7_mirroredAt.2.2.1 mX7_mirroredAt.2.2.2 ∈ z_W := z_at1 822 (by decide +kernel) (by decide +kernel)
set_option maxRecDepth 100000 in
theorem wm_X7_mirroredAt : Cond.instanceMethod yX7_mirroredAt ∈ z_W := z_at1 820 (by decide +kernel) (by decide +kernel)
set_option maxRecDepth 100000 in
theorem ws_X7_mirroredAt : Cond.selects RX7 yX7_mirroredAt yX7_mirroredAt ∈ z_W := z_at1 821 (by decide +kernel) (by decide +kernel)
abbrev mX8_even : z_M := (yX8_even, cX8_even, 3, some FieldType.int)
set_option maxRecDepth 100000 in
theorem wc_X8_even : Cond.code mX8_even.1 mX8_even.2.1 mX8_even.2.2.1 mX8_even.2.2.2 ∈ z_W := z_at1 827 (by decide +kernel) (by decide +kernel)
set_option maxRecDepth 100000 in
theorem wm_X8_even : Cond.instanceMethod yX8_even ∈ z_W := z_at1 825 (by decide +kernel) (by decide +kernel)
set_option maxRecDepth 100000 in
theorem ws_X8_even : Cond.selects RX8 yX8_even yX8_even ∈ z_W := z_at1 826 (by decide +kernel) (by decide +kernel)
abbrev mX7_isEven : z_M := (yX7_isEven, cX7_isEven, 2, some FieldType.boolean)
set_option maxRecDepth 100000 in
theorem wc_X7_isEven : Cond.code mX7_isEven.1 mX7_isEven.2.1 mX7_isEven.2.2.1 mX7_isEven.2.2.2 ∈ z_W := z_at1 831 (by decide +kernel) (by decide +kernel)
set_option maxRecDepth 100000 in
theorem wm_X7_isEven : Cond.instanceMethod yX7_isEven ∈ z_W := z_at1 829 (by decide +kernel) (by decide +kernel)
set_option maxRecDepth 100000 in
theorem ws_X7_isEven : Cond.selects RX7 yX7_isEven yX7_isEven ∈ z_W := z_at1 830 (by decide +kernel) (by decide +kernel)
abbrev mX8_roots : z_M := (yX8_roots, cX8_roots, 4, some FieldType.long)
set_option maxRecDepth 100000 in
theorem wc_X8_roots : Cond.code mX8_roots.1 mX8_roots.2.1 mX8_roots.2.2.1 mX8_roots.2.2.2 ∈ z_W := z_at1 836 (by decide +kernel) (by decide +kernel)
set_option maxRecDepth 100000 in
theorem wm_X8_roots : Cond.instanceMethod yX8_roots ∈ z_W := z_at1 834 (by decide +kernel) (by decide +kernel)
set_option maxRecDepth 100000 in
theorem ws_X8_roots : Cond.selects RX8 yX8_roots yX8_roots ∈ z_W := z_at1 835 (by decide +kernel) (by decide +kernel)
abbrev mX7_rootsOf : z_M := (yX7_rootsOf, cX7_rootsOf, 12, some FieldType.long)
set_option maxRecDepth 100000 in
theorem wc_X7_rootsOf : Cond.code mX7_rootsOf.1 mX7_rootsOf.2.1 mX7_rootsOf.2.2.1 mX7_rootsOf.2.2.2 ∈ z_W := z_at1 840 (by decide +kernel) (by decide +kernel)
set_option maxRecDepth 100000 in
theorem wm_X7_rootsOf : Cond.instanceMethod yX7_rootsOf ∈ z_W := z_at1 838 (by decide +kernel) (by decide +kernel)
set_option maxRecDepth 100000 in
theorem ws_X7_rootsOf : Cond.selects RX7 yX7_rootsOf yX7_rootsOf ∈ z_W := z_at1 839 (by decide +kernel) (by decide +kernel)
abbrev mX8_origin : z_M := (yX8_origin, cX8_origin, 2, some FieldType.long)
set_option maxRecDepth 100000 in
theorem wc_X8_origin : Cond.code mX8_origin.1 mX8_origin.2.1 mX8_origin.2.2.1 mX8_origin.2.2.2 ∈ z_W := z_at1 844 (by decide +kernel) (by decide +kernel)
set_option maxRecDepth 100000 in
theorem wm_X8_origin : Cond.instanceMethod yX8_origin ∈ z_W := z_at1 842 (by decide +kernel) (by decide +kernel)
set_option maxRecDepth 100000 in
theorem ws_X8_origin : Cond.selects RX8 yX8_origin yX8_origin ∈ z_W := z_at1 843 (by decide +kernel) (by decide +kernel)
abbrev mX6_placesAtFirst : z_M := (yX6_placesAtFirst, cX6_placesAtFirst, 9, some FieldType.long)
set_option maxRecDepth 100000 in
theorem wc_X6_placesAtFirst : Cond.code mX6_placesAtFirst.1 mX6_placesAtFirst.2.1 mX6_placesAtFirst.2.2.1 mX6_placesAtFirst.2.2.2 ∈ z_W := z_at1 848 (by decide +kernel) (by decide +kernel)
set_option maxRecDepth 100000 in
theorem wm_X6_placesAtFirst : Cond.instanceMethod yX6_placesAtFirst ∈ z_W := z_at1 846 (by decide +kernel) (by decide +kernel)
set_option maxRecDepth 100000 in
theorem ws_X6_placesAtFirst : Cond.selects RX6 yX6_placesAtFirst yX6_placesAtFirst ∈ z_W := z_at1 847 (by decide +kernel) (by decide +kernel)
abbrev mX6_turnedAbout : z_M := (yX6_turnedAbout, cX6_turnedAbout, 6, some FieldType.long)
set_option maxRecDepth 100000 in
theorem wc_X6_turnedAbout : Cond.code mX6_turnedAbout.1 mX6_turnedAbout.2.1 mX6_turnedAbout.2.2.1 mX6_turnedAbout.2.2.2 ∈ z_W := z_at1 851 (by decide +kernel) (by decide +kernel)
set_option maxRecDepth 100000 in
theorem wt_X6_turnedAbout : Cond.static yX6_turnedAbout ∈ z_W := z_at1 850 (by decide +kernel) (by decide +kernel)
abbrev mX8_yarn : z_M := (yX8_yarn, cX8_yarn, 5, some FieldType.long)
set_option maxRecDepth 100000 in
theorem wc_X8_yarn : Cond.code mX8_yarn.1 mX8_yarn.2.1 mX8_yarn.2.2.1 mX8_yarn.2.2.2 ∈ z_W := z_at1 856 (by decide +kernel) (by decide +kernel)
set_option maxRecDepth 100000 in
theorem wm_X8_yarn : Cond.instanceMethod yX8_yarn ∈ z_W := z_at1 854 (by decide +kernel) (by decide +kernel)
set_option maxRecDepth 100000 in
theorem ws_X8_yarn : Cond.selects RX8 yX8_yarn yX8_yarn ∈ z_W := z_at1 855 (by decide +kernel) (by decide +kernel)
abbrev mX8_many : z_M := (yX8_many, cX8_many, 5, some FieldType.int)
set_option maxRecDepth 100000 in
theorem wc_X8_many : Cond.code mX8_many.1 mX8_many.2.1 mX8_many.2.2.1 mX8_many.2.2.2 ∈ z_W := z_at1 860 (by decide +kernel) (by decide +kernel)
set_option maxRecDepth 100000 in
theorem wm_X8_many : Cond.instanceMethod yX8_many ∈ z_W := z_at1 858 (by decide +kernel) (by decide +kernel)
set_option maxRecDepth 100000 in
theorem ws_X8_many : Cond.selects RX8 yX8_many yX8_many ∈ z_W := z_at1 859 (by decide +kernel) (by decide +kernel)
abbrev mX7_countUnder : z_M := (yX7_countUnder, cX7_countUnder, 4, some FieldType.int)
set_option maxRecDepth 100000 in
theorem wc_X7_countUnder : Cond.code mX7_countUnder.1 mX7_countUnder.2.1 mX7_countUnder.2.2.1 mX7_countUnder.2.2.2 ∈ z_W := z_at1 864 (by decide +kernel) (by decide +kernel)
set_option maxRecDepth 100000 in
theorem wm_X7_countUnder : Cond.instanceMethod yX7_countUnder ∈ z_W := z_at1 862 (by decide +kernel) (by decide +kernel)
set_option maxRecDepth 100000 in
theorem ws_X7_countUnder : Cond.selects RX7 yX7_countUnder yX7_countUnder ∈ z_W := z_at1 863 (by decide +kernel) (by decide +kernel)
abbrev mX8_differ : z_M := (yX8_differ, cX8_differ, 7, some FieldType.int)
set_option maxRecDepth 100000 in
theorem wc_X8_differ : Cond.code mX8_differ.1 mX8_differ.2.1 mX8_differ.2.2.1 mX8_differ.2.2.2 ∈ z_W := z_at1 869 (by decide +kernel) (by decide +kernel)
set_option maxRecDepth 100000 in
theorem wm_X8_differ : Cond.instanceMethod yX8_differ ∈ z_W := z_at1 867 (by decide +kernel) (by decide +kernel)
set_option maxRecDepth 100000 in
theorem ws_X8_differ : Cond.selects RX8 yX8_differ yX8_differ ∈ z_W := z_at1 868 (by decide +kernel) (by decide +kernel)
abbrev mX8_judge : z_M := (yX8_judge, cX8_judge, 7, some FieldType.int)
set_option maxRecDepth 100000 in
theorem wc_X8_judge : Cond.code mX8_judge.1 mX8_judge.2.1 mX8_judge.2.2.1 mX8_judge.2.2.2 ∈ z_W := z_at1 874 (by decide +kernel) (by decide +kernel)
set_option maxRecDepth 100000 in
theorem wm_X8_judge : Cond.instanceMethod yX8_judge ∈ z_W := z_at1 872 (by decide +kernel) (by decide +kernel)
set_option maxRecDepth 100000 in
theorem ws_X8_judge : Cond.selects RX8 yX8_judge yX8_judge ∈ z_W := z_at1 873 (by decide +kernel) (by decide +kernel)
abbrev mX8_days : z_M := (yX8_days, cX8_days, 6, some FieldType.int)
set_option maxRecDepth 100000 in
theorem wc_X8_days : Cond.code mX8_days.1 mX8_days.2.1 mX8_days.2.2.1 mX8_days.2.2.2 ∈ z_W := z_at1 878 (by decide +kernel) (by decide +kernel)
set_option maxRecDepth 100000 in
theorem wm_X8_days : Cond.instanceMethod yX8_days ∈ z_W := z_at1 876 (by decide +kernel) (by decide +kernel)
set_option maxRecDepth 100000 in
theorem ws_X8_days : Cond.selects RX8 yX8_days yX8_days ∈ z_W := z_at1 877 (by decide +kernel) (by decide +kernel)
abbrev mX6_drawBelow : z_M := (yX6_drawBelow, cX6_drawBelow, 2, some FieldType.int)
set_option maxRecDepth 100000 in
theorem wc_X6_drawBelow : Cond.code mX6_drawBelow.1 mX6_drawBelow.2.1 mX6_drawBelow.2.2.1 mX6_drawBelow.2.2.2 ∈ z_W := z_at1 882 (by decide +kernel) (by decide +kernel)
set_option maxRecDepth 100000 in
theorem wm_X6_drawBelow : Cond.instanceMethod yX6_drawBelow ∈ z_W := z_at1 880 (by decide +kernel) (by decide +kernel)
set_option maxRecDepth 100000 in
theorem ws_X6_drawBelow : Cond.selects RX6 yX6_drawBelow yX6_drawBelow ∈ z_W := z_at1 881 (by decide +kernel) (by decide +kernel)
abbrev mX8_seed : z_M := (yX8_seed, cX8_seed, 3, some FieldType.int)
set_option maxRecDepth 100000 in
theorem wc_X8_seed : Cond.code mX8_seed.1 mX8_seed.2.1 mX8_seed.2.2.1 mX8_seed.2.2.2 ∈ z_W := z_at1 887 (by decide +kernel) (by decide +kernel)
set_option maxRecDepth 100000 in
theorem wm_X8_seed : Cond.instanceMethod yX8_seed ∈ z_W := z_at1 885 (by decide +kernel) (by decide +kernel)
set_option maxRecDepth 100000 in
theorem ws_X8_seed : Cond.selects RX8 yX8_seed yX8_seed ∈ z_W := z_at1 886 (by decide +kernel) (by decide +kernel)
abbrev mX8_image : z_M := (yX8_image, cX8_image, 1, some FieldType.int)
set_option maxRecDepth 100000 in
theorem wc_X8_image : Cond.code mX8_image.1 mX8_image.2.1 mX8_image.2.2.1 mX8_image.2.2.2 ∈ z_W := z_at1 891 (by decide +kernel) (by decide +kernel)
set_option maxRecDepth 100000 in
theorem wm_X8_image : Cond.instanceMethod yX8_image ∈ z_W := z_at1 889 (by decide +kernel) (by decide +kernel)
set_option maxRecDepth 100000 in
theorem ws_X8_image : Cond.selects RX8 yX8_image yX8_image ∈ z_W := z_at1 890 (by decide +kernel) (by decide +kernel)
abbrev mX6_takeFrom : z_M := (yX6_takeFrom, cX6_takeFrom, 5, none)
set_option maxRecDepth 100000 in
theorem wc_X6_takeFrom : Cond.code mX6_takeFrom.1 mX6_takeFrom.2.1 mX6_takeFrom.2.2.1 mX6_takeFrom.2.2.2 ∈ z_W := z_at1 895 (by decide +kernel) (by decide +kernel)
set_option maxRecDepth 100000 in
theorem wm_X6_takeFrom : Cond.instanceMethod yX6_takeFrom ∈ z_W := z_at1 893 (by decide +kernel) (by decide +kernel)
set_option maxRecDepth 100000 in
theorem ws_X6_takeFrom : Cond.selects RX6 yX6_takeFrom yX6_takeFrom ∈ z_W := z_at1 894 (by decide +kernel) (by decide +kernel)
abbrev mX1_takeFrom : z_M := (yX1_takeFrom, cX1_takeFrom, 2, none)
set_option maxRecDepth 100000 in
theorem wc_X1_takeFrom : Cond.code mX1_takeFrom.1 mX1_takeFrom.2.1 mX1_takeFrom.2.2.1 mX1_takeFrom.2.2.2 ∈ z_W := z_at1 899 (by decide +kernel) (by decide +kernel)
set_option maxRecDepth 100000 in
theorem wm_X1_takeFrom : Cond.instanceMethod yX1_takeFrom ∈ z_W := z_at1 897 (by decide +kernel) (by decide +kernel)
set_option maxRecDepth 100000 in
theorem ws_X1_takeFrom : Cond.selects RX1 yX1_takeFrom yX1_takeFrom ∈ z_W := z_at1 898 (by decide +kernel) (by decide +kernel)
abbrev mX8_back : z_M := (yX8_back, cX8_back, 1, some FieldType.int)
set_option maxRecDepth 100000 in
theorem wc_X8_back : Cond.code mX8_back.1 mX8_back.2.1 mX8_back.2.2.1 mX8_back.2.2.2 ∈ z_W := z_at1 904 (by decide +kernel) (by decide +kernel)
set_option maxRecDepth 100000 in
theorem wm_X8_back : Cond.instanceMethod yX8_back ∈ z_W := z_at1 902 (by decide +kernel) (by decide +kernel)
set_option maxRecDepth 100000 in
theorem ws_X8_back : Cond.selects RX8 yX8_back yX8_back ∈ z_W := z_at1 903 (by decide +kernel) (by decide +kernel)
abbrev mX8_status : z_M := (yX8_status, cX8_status, 2, some FieldType.int)
set_option maxRecDepth 100000 in
theorem wc_X8_status : Cond.code mX8_status.1 mX8_status.2.1 mX8_status.2.2.1 mX8_status.2.2.2 ∈ z_W := z_at1 908 (by decide +kernel) (by decide +kernel)
set_option maxRecDepth 100000 in
theorem wm_X8_status : Cond.instanceMethod yX8_status ∈ z_W := z_at1 906 (by decide +kernel) (by decide +kernel)
set_option maxRecDepth 100000 in
theorem ws_X8_status : Cond.selects RX8 yX8_status yX8_status ∈ z_W := z_at1 907 (by decide +kernel) (by decide +kernel)
abbrev mX8_shelvesInUse : z_M := (yX8_shelvesInUse, cX8_shelvesInUse, 3, some FieldType.int)
set_option maxRecDepth 100000 in
theorem wc_X8_shelvesInUse : Cond.code mX8_shelvesInUse.1 mX8_shelvesInUse.2.1 mX8_shelvesInUse.2.2.1 mX8_shelvesInUse.2.2.2 ∈ z_W := z_at1 912 (by decide +kernel) (by decide +kernel)
set_option maxRecDepth 100000 in
theorem wm_X8_shelvesInUse : Cond.instanceMethod yX8_shelvesInUse ∈ z_W := z_at1 911 (by decide +kernel) (by decide +kernel)
set_option maxRecDepth 100000 in
theorem ws_X8_shelvesInUse : Cond.selects RX8 yX8_shelvesInUse yX8_shelvesInUse ∈ z_W := z_at0 27 (by decide +kernel) (by decide +kernel)
abbrev mX8_refusalsOf : z_M := (yX8_refusalsOf, cX8_refusalsOf, 2, some FieldType.int)
set_option maxRecDepth 100000 in
theorem wc_X8_refusalsOf : Cond.code mX8_refusalsOf.1 mX8_refusalsOf.2.1 mX8_refusalsOf.2.2.1 mX8_refusalsOf.2.2.2 ∈ z_W := z_at1 917 (by decide +kernel) (by decide +kernel)
set_option maxRecDepth 100000 in
theorem wm_X8_refusalsOf : Cond.instanceMethod yX8_refusalsOf ∈ z_W := z_at1 916 (by decide +kernel) (by decide +kernel)
set_option maxRecDepth 100000 in
theorem ws_X8_refusalsOf : Cond.selects RX8 yX8_refusalsOf yX8_refusalsOf ∈ z_W := z_at0 28 (by decide +kernel) (by decide +kernel)
abbrev mX9_init : z_M := (yX9_init, cX9_init, 1, none)
set_option maxRecDepth 100000 in
theorem wc_X9_init : Cond.code mX9_init.1 mX9_init.2.1 mX9_init.2.2.1 mX9_init.2.2.2 ∈ z_W := z_at1 922 (by decide +kernel) (by decide +kernel)
set_option maxRecDepth 100000 in
theorem wi_X9 : Cond.initialized RX9 ∈ z_W := z_at1 8 (by decide +kernel) (by decide +kernel)
set_option maxRecDepth 100000 in
theorem wm_X9_init : Cond.instanceMethod yX9_init ∈ z_W := z_at1 921 (by decide +kernel) (by decide +kernel)
abbrev mX9_feed : z_M := (yX9_feed, cX9_feed, 2, some FieldType.int)
set_option maxRecDepth 100000 in
theorem wc_X9_feed : Cond.code mX9_feed.1 mX9_feed.2.1 mX9_feed.2.2.1 mX9_feed.2.2.2 ∈ z_W := z_at1 1012 (by decide +kernel) (by decide +kernel)
set_option maxRecDepth 100000 in
theorem wm_X9_feed : Cond.instanceMethod yX9_feed ∈ z_W := z_at1 1010 (by decide +kernel) (by decide +kernel)
set_option maxRecDepth 100000 in
theorem ws_X9_feed : Cond.selects RX9 yX9_feed yX9_feed ∈ z_W := z_at1 1011 (by decide +kernel) (by decide +kernel)
abbrev mX9_isIn : z_M := (yX9_isIn, cX9_isIn, 6, some FieldType.boolean)
set_option maxRecDepth 100000 in
theorem wc_X9_isIn : Cond.code mX9_isIn.1 mX9_isIn.2.1 mX9_isIn.2.2.1 mX9_isIn.2.2.2 ∈ z_W := z_at1 1016 (by decide +kernel) (by decide +kernel)
set_option maxRecDepth 100000 in
theorem wt_X9_isIn : Cond.static yX9_isIn ∈ z_W := z_at1 1015 (by decide +kernel) (by decide +kernel)
abbrev mX9_refuses : z_M := (yX9_refuses, cX9_refuses, 2, some FieldType.int)
set_option maxRecDepth 100000 in
theorem wc_X9_refuses : Cond.code mX9_refuses.1 mX9_refuses.2.1 mX9_refuses.2.2.1 mX9_refuses.2.2.2 ∈ z_W := z_at1 1020 (by decide +kernel) (by decide +kernel)
set_option maxRecDepth 100000 in
theorem wm_X9_refuses : Cond.instanceMethod yX9_refuses ∈ z_W := z_at1 1019 (by decide +kernel) (by decide +kernel)
set_option maxRecDepth 100000 in
theorem ws_X9_refuses : Cond.selects RX9 yX9_refuses yX9_refuses ∈ z_W := z_at0 29 (by decide +kernel) (by decide +kernel)
abbrev mX9_wipe : z_M := (yX9_wipe, cX9_wipe, 2, some FieldType.int)
set_option maxRecDepth 100000 in
theorem wc_X9_wipe : Cond.code mX9_wipe.1 mX9_wipe.2.1 mX9_wipe.2.2.1 mX9_wipe.2.2.2 ∈ z_W := z_at1 1024 (by decide +kernel) (by decide +kernel)
set_option maxRecDepth 100000 in
theorem wm_X9_wipe : Cond.instanceMethod yX9_wipe ∈ z_W := z_at1 1022 (by decide +kernel) (by decide +kernel)
set_option maxRecDepth 100000 in
theorem ws_X9_wipe : Cond.selects RX9 yX9_wipe yX9_wipe ∈ z_W := z_at1 1023 (by decide +kernel) (by decide +kernel)
abbrev mX9_line : z_M := (yX9_line, cX9_line, 3, some FieldType.int)
set_option maxRecDepth 100000 in
theorem wc_X9_line : Cond.code mX9_line.1 mX9_line.2.1 mX9_line.2.2.1 mX9_line.2.2.2 ∈ z_W := z_at1 1028 (by decide +kernel) (by decide +kernel)
set_option maxRecDepth 100000 in
theorem wm_X9_line : Cond.instanceMethod yX9_line ∈ z_W := z_at1 1026 (by decide +kernel) (by decide +kernel)
set_option maxRecDepth 100000 in
theorem ws_X9_line : Cond.selects RX9 yX9_line yX9_line ∈ z_W := z_at1 1027 (by decide +kernel) (by decide +kernel)
abbrev mX9_readsAll : z_M := (yX9_readsAll, cX9_readsAll, 1, none)
set_option maxRecDepth 100000 in
theorem wc_X9_readsAll : Cond.code mX9_readsAll.1 mX9_readsAll.2.1 mX9_readsAll.2.2.1 mX9_readsAll.2.2.2 ∈ z_W := z_at1 1032 (by decide +kernel) (by decide +kernel)
set_option maxRecDepth 100000 in
theorem wm_X9_readsAll : Cond.instanceMethod yX9_readsAll ∈ z_W := z_at1 1031 (by decide +kernel) (by decide +kernel)
set_option maxRecDepth 100000 in
theorem ws_X9_readsAll : Cond.selects RX9 yX9_readsAll yX9_readsAll ∈ z_W := z_at0 30 (by decide +kernel) (by decide +kernel)
abbrev mX9_reads : z_M := (yX9_reads, cX9_reads, 4, none)
set_option maxRecDepth 100000 in
theorem wc_X9_reads : Cond.code mX9_reads.1 mX9_reads.2.1 mX9_reads.2.2.1 mX9_reads.2.2.2 ∈ z_W := z_at1 1036 (by decide +kernel) (by decide +kernel)
set_option maxRecDepth 100000 in
theorem wm_X9_reads : Cond.instanceMethod yX9_reads ∈ z_W := z_at1 1035 (by decide +kernel) (by decide +kernel)
set_option maxRecDepth 100000 in
theorem ws_X9_reads : Cond.selects RX9 yX9_reads yX9_reads ∈ z_W := z_at0 31 (by decide +kernel) (by decide +kernel)
abbrev mX9_peek : z_M := (yX9_peek, cX9_peek, 1, some FieldType.int)
set_option maxRecDepth 100000 in
theorem wc_X9_peek : Cond.code mX9_peek.1 mX9_peek.2.1 mX9_peek.2.2.1 mX9_peek.2.2.2 ∈ z_W := z_at1 1041 (by decide +kernel) (by decide +kernel)
set_option maxRecDepth 100000 in
theorem wm_X9_peek : Cond.instanceMethod yX9_peek ∈ z_W := z_at1 1040 (by decide +kernel) (by decide +kernel)
set_option maxRecDepth 100000 in
theorem ws_X9_peek : Cond.selects RX9 yX9_peek yX9_peek ∈ z_W := z_at0 32 (by decide +kernel) (by decide +kernel)
abbrev mX9_number : z_M := (yX9_number, cX9_number, 6, some FieldType.int)
set_option maxRecDepth 100000 in
theorem wc_X9_number : Cond.code mX9_number.1 mX9_number.2.1 mX9_number.2.2.1 mX9_number.2.2.2 ∈ z_W := z_at1 1045 (by decide +kernel) (by decide +kernel)
set_option maxRecDepth 100000 in
theorem wm_X9_number : Cond.instanceMethod yX9_number ∈ z_W := z_at1 1044 (by decide +kernel) (by decide +kernel)
set_option maxRecDepth 100000 in
theorem ws_X9_number : Cond.selects RX9 yX9_number yX9_number ∈ z_W := z_at0 33 (by decide +kernel) (by decide +kernel)
abbrev mX9_isFigure : z_M := (yX9_isFigure, cX9_isFigure, 1, some FieldType.boolean)
set_option maxRecDepth 100000 in
theorem wc_X9_isFigure : Cond.code mX9_isFigure.1 mX9_isFigure.2.1 mX9_isFigure.2.2.1 mX9_isFigure.2.2.2 ∈ z_W := z_at1 1048 (by decide +kernel) (by decide +kernel)
set_option maxRecDepth 100000 in
theorem wt_X9_isFigure : Cond.static yX9_isFigure ∈ z_W := z_at1 1047 (by decide +kernel) (by decide +kernel)
abbrev mX9_word : z_M := (yX9_word, cX9_word, 4, some FieldType.int)
set_option maxRecDepth 100000 in
theorem wc_X9_word : Cond.code mX9_word.1 mX9_word.2.1 mX9_word.2.2.1 mX9_word.2.2.2 ∈ z_W := z_at1 1054 (by decide +kernel) (by decide +kernel)
set_option maxRecDepth 100000 in
theorem wm_X9_word : Cond.instanceMethod yX9_word ∈ z_W := z_at1 1053 (by decide +kernel) (by decide +kernel)
set_option maxRecDepth 100000 in
theorem ws_X9_word : Cond.selects RX9 yX9_word yX9_word ∈ z_W := z_at0 34 (by decide +kernel) (by decide +kernel)
abbrev mX9_kindOf : z_M := (yX9_kindOf, cX9_kindOf, 3, some FieldType.int)
set_option maxRecDepth 100000 in
theorem wc_X9_kindOf : Cond.code mX9_kindOf.1 mX9_kindOf.2.1 mX9_kindOf.2.2.1 mX9_kindOf.2.2.2 ∈ z_W := z_at1 1059 (by decide +kernel) (by decide +kernel)
set_option maxRecDepth 100000 in
theorem wt_X9_kindOf : Cond.static yX9_kindOf ∈ z_W := z_at1 1058 (by decide +kernel) (by decide +kernel)
abbrev mX9_drop : z_M := (yX9_drop, cX9_drop, 1, some FieldType.int)
set_option maxRecDepth 100000 in
theorem wc_X9_drop : Cond.code mX9_drop.1 mX9_drop.2.1 mX9_drop.2.2.1 mX9_drop.2.2.2 ∈ z_W := z_at1 1063 (by decide +kernel) (by decide +kernel)
set_option maxRecDepth 100000 in
theorem wm_X9_drop : Cond.instanceMethod yX9_drop ∈ z_W := z_at1 1061 (by decide +kernel) (by decide +kernel)
set_option maxRecDepth 100000 in
theorem ws_X9_drop : Cond.selects RX9 yX9_drop yX9_drop ∈ z_W := z_at1 1062 (by decide +kernel) (by decide +kernel)
abbrev mX9_lineOf : z_M := (yX9_lineOf, cX9_lineOf, 3, some FieldType.int)
set_option maxRecDepth 100000 in
theorem wc_X9_lineOf : Cond.code mX9_lineOf.1 mX9_lineOf.2.1 mX9_lineOf.2.2.1 mX9_lineOf.2.2.2 ∈ z_W := z_at1 1067 (by decide +kernel) (by decide +kernel)
set_option maxRecDepth 100000 in
theorem wm_X9_lineOf : Cond.instanceMethod yX9_lineOf ∈ z_W := z_at1 1065 (by decide +kernel) (by decide +kernel)
set_option maxRecDepth 100000 in
theorem ws_X9_lineOf : Cond.selects RX9 yX9_lineOf yX9_lineOf ∈ z_W := z_at1 1066 (by decide +kernel) (by decide +kernel)
abbrev mX9_isLine : z_M := (yX9_isLine, cX9_isLine, 2, some FieldType.boolean)
set_option maxRecDepth 100000 in
theorem wc_X9_isLine : Cond.code mX9_isLine.1 mX9_isLine.2.1 mX9_isLine.2.2.1 mX9_isLine.2.2.2 ∈ z_W := z_at1 1071 (by decide +kernel) (by decide +kernel)
set_option maxRecDepth 100000 in
theorem wm_X9_isLine : Cond.instanceMethod yX9_isLine ∈ z_W := z_at1 1070 (by decide +kernel) (by decide +kernel)
set_option maxRecDepth 100000 in
theorem ws_X9_isLine : Cond.selects RX9 yX9_isLine yX9_isLine ∈ z_W := z_at0 35 (by decide +kernel) (by decide +kernel)
abbrev mX9_takesText : z_M := (yX9_takesText, cX9_takesText, 3, none)
set_option maxRecDepth 100000 in
theorem wc_X9_takesText : Cond.code mX9_takesText.1 mX9_takesText.2.1 mX9_takesText.2.2.1 mX9_takesText.2.2.2 ∈ z_W := z_at1 1076 (by decide +kernel) (by decide +kernel)
set_option maxRecDepth 100000 in
theorem wm_X9_takesText : Cond.instanceMethod yX9_takesText ∈ z_W := z_at1 1075 (by decide +kernel) (by decide +kernel)
set_option maxRecDepth 100000 in
theorem ws_X9_takesText : Cond.selects RX9 yX9_takesText yX9_takesText ∈ z_W := z_at0 36 (by decide +kernel) (by decide +kernel)
abbrev mX9_text : z_M := (yX9_text, cX9_text, 3, some FieldType.int)
set_option maxRecDepth 100000 in
theorem wc_X9_text : Cond.code mX9_text.1 mX9_text.2.1 mX9_text.2.2.1 mX9_text.2.2.2 ∈ z_W := z_at1 1080 (by decide +kernel) (by decide +kernel)
set_option maxRecDepth 100000 in
theorem wm_X9_text : Cond.instanceMethod yX9_text ∈ z_W := z_at1 1078 (by decide +kernel) (by decide +kernel)
set_option maxRecDepth 100000 in
theorem ws_X9_text : Cond.selects RX9 yX9_text yX9_text ∈ z_W := z_at1 1079 (by decide +kernel) (by decide +kernel)
abbrev mX9_work : z_M := (yX9_work, cX9_work, 2, some FieldType.int)
set_option maxRecDepth 100000 in
theorem wc_X9_work : Cond.code mX9_work.1 mX9_work.2.1 mX9_work.2.2.1 mX9_work.2.2.2 ∈ z_W := z_at1 1084 (by decide +kernel) (by decide +kernel)
set_option maxRecDepth 100000 in
theorem wm_X9_work : Cond.instanceMethod yX9_work ∈ z_W := z_at1 1082 (by decide +kernel) (by decide +kernel)
set_option maxRecDepth 100000 in
theorem ws_X9_work : Cond.selects RX9 yX9_work yX9_work ∈ z_W := z_at1 1083 (by decide +kernel) (by decide +kernel)
abbrev mX9_triesNow : z_M := (yX9_triesNow, cX9_triesNow, 2, none)
set_option maxRecDepth 100000 in
theorem wc_X9_triesNow : Cond.code mX9_triesNow.1 mX9_triesNow.2.1 mX9_triesNow.2.2.1 mX9_triesNow.2.2.2 ∈ z_W := z_at1 1088 (by decide +kernel) (by decide +kernel)
set_option maxRecDepth 100000 in
theorem wm_X9_triesNow : Cond.instanceMethod yX9_triesNow ∈ z_W := z_at1 1087 (by decide +kernel) (by decide +kernel)
set_option maxRecDepth 100000 in
theorem ws_X9_triesNow : Cond.selects RX9 yX9_triesNow yX9_triesNow ∈ z_W := z_at0 37 (by decide +kernel) (by decide +kernel)
abbrev mX9_hits : z_M := (yX9_hits, cX9_hits, 4, none)
set_option maxRecDepth 100000 in
theorem wc_X9_hits : Cond.code mX9_hits.1 mX9_hits.2.1 mX9_hits.2.2.1 mX9_hits.2.2.2 ∈ z_W := z_at1 1092 (by decide +kernel) (by decide +kernel)
set_option maxRecDepth 100000 in
theorem wm_X9_hits : Cond.instanceMethod yX9_hits ∈ z_W := z_at1 1091 (by decide +kernel) (by decide +kernel)
set_option maxRecDepth 100000 in
theorem ws_X9_hits : Cond.selects RX9 yX9_hits yX9_hits ∈ z_W := z_at0 38 (by decide +kernel) (by decide +kernel)
abbrev mX9_tries : z_M := (yX9_tries, cX9_tries, 3, none)
set_option maxRecDepth 100000 in
theorem wc_X9_tries : Cond.code mX9_tries.1 mX9_tries.2.1 mX9_tries.2.2.1 mX9_tries.2.2.2 ∈ z_W := z_at1 1096 (by decide +kernel) (by decide +kernel)
set_option maxRecDepth 100000 in
theorem wm_X9_tries : Cond.instanceMethod yX9_tries ∈ z_W := z_at1 1095 (by decide +kernel) (by decide +kernel)
set_option maxRecDepth 100000 in
theorem ws_X9_tries : Cond.selects RX9 yX9_tries yX9_tries ∈ z_W := z_at0 39 (by decide +kernel) (by decide +kernel)
abbrev mX9_works : z_M := (yX9_works, cX9_works, 11, none)
set_option maxRecDepth 100000 in
theorem wc_X9_works : Cond.code mX9_works.1 mX9_works.2.1 mX9_works.2.2.1 mX9_works.2.2.2 ∈ z_W := z_at1 1100 (by decide +kernel) (by decide +kernel)
set_option maxRecDepth 100000 in
theorem wm_X9_works : Cond.instanceMethod yX9_works ∈ z_W := z_at1 1099 (by decide +kernel) (by decide +kernel)
set_option maxRecDepth 100000 in
theorem ws_X9_works : Cond.selects RX9 yX9_works yX9_works ∈ z_W := z_at0 40 (by decide +kernel) (by decide +kernel)
abbrev mX9_end : z_M := (yX9_end, cX9_end, 4, some FieldType.int)
set_option maxRecDepth 100000 in
theorem wc_X9_end : Cond.code mX9_end.1 mX9_end.2.1 mX9_end.2.2.1 mX9_end.2.2.2 ∈ z_W := z_at1 1104 (by decide +kernel) (by decide +kernel)
set_option maxRecDepth 100000 in
theorem wm_X9_end : Cond.instanceMethod yX9_end ∈ z_W := z_at1 1103 (by decide +kernel) (by decide +kernel)
set_option maxRecDepth 100000 in
theorem ws_X9_end : Cond.selects RX9 yX9_end yX9_end ∈ z_W := z_at0 41 (by decide +kernel) (by decide +kernel)
abbrev mX9_once : z_M := (yX9_once, cX9_once, 5, none)
set_option maxRecDepth 100000 in
theorem wc_X9_once : Cond.code mX9_once.1 mX9_once.2.1 mX9_once.2.2.1 mX9_once.2.2.2 ∈ z_W := z_at1 1108 (by decide +kernel) (by decide +kernel)
set_option maxRecDepth 100000 in
theorem wm_X9_once : Cond.instanceMethod yX9_once ∈ z_W := z_at1 1107 (by decide +kernel) (by decide +kernel)
set_option maxRecDepth 100000 in
theorem ws_X9_once : Cond.selects RX9 yX9_once yX9_once ∈ z_W := z_at0 42 (by decide +kernel) (by decide +kernel)
abbrev mX9_tillLeft : z_M := (yX9_tillLeft, cX9_tillLeft, 7, none)
set_option maxRecDepth 100000 in
theorem wc_X9_tillLeft : Cond.code mX9_tillLeft.1 mX9_tillLeft.2.1 mX9_tillLeft.2.2.1 mX9_tillLeft.2.2.2 ∈ z_W := z_at1 1112 (by decide +kernel) (by decide +kernel)
set_option maxRecDepth 100000 in
theorem wm_X9_tillLeft : Cond.instanceMethod yX9_tillLeft ∈ z_W := z_at1 1111 (by decide +kernel) (by decide +kernel)
set_option maxRecDepth 100000 in
theorem ws_X9_tillLeft : Cond.selects RX9 yX9_tillLeft yX9_tillLeft ∈ z_W := z_at0 43 (by decide +kernel) (by decide +kernel)
abbrev mX9_stitches : z_M := (yX9_stitches, cX9_stitches, 6, none)
set_option maxRecDepth 100000 in
theorem wc_X9_stitches : Cond.code mX9_stitches.1 mX9_stitches.2.1 mX9_stitches.2.2.1 mX9_stitches.2.2.2 ∈ z_W := z_at1 1116 (by decide +kernel) (by decide +kernel)
set_option maxRecDepth 100000 in
theorem wm_X9_stitches : Cond.instanceMethod yX9_stitches ∈ z_W := z_at1 1115 (by decide +kernel) (by decide +kernel)
set_option maxRecDepth 100000 in
theorem ws_X9_stitches : Cond.selects RX9 yX9_stitches yX9_stitches ∈ z_W := z_at0 44 (by decide +kernel) (by decide +kernel)
abbrev mX9_takes : z_M := (yX9_takes, cX9_takes, 1, some FieldType.int)
set_option maxRecDepth 100000 in
theorem wc_X9_takes : Cond.code mX9_takes.1 mX9_takes.2.1 mX9_takes.2.2.1 mX9_takes.2.2.2 ∈ z_W := z_at1 1119 (by decide +kernel) (by decide +kernel)
set_option maxRecDepth 100000 in
theorem wt_X9_takes : Cond.static yX9_takes ∈ z_W := z_at1 1118 (by decide +kernel) (by decide +kernel)
abbrev mX9_makes : z_M := (yX9_makes, cX9_makes, 1, some FieldType.int)
set_option maxRecDepth 100000 in
theorem wc_X9_makes : Cond.code mX9_makes.1 mX9_makes.2.1 mX9_makes.2.2.1 mX9_makes.2.2.2 ∈ z_W := z_at1 1122 (by decide +kernel) (by decide +kernel)
set_option maxRecDepth 100000 in
theorem wt_X9_makes : Cond.static yX9_makes ∈ z_W := z_at1 1121 (by decide +kernel) (by decide +kernel)
abbrev mX9_tellsWhy : z_M := (yX9_tellsWhy, cX9_tellsWhy, 4, none)
set_option maxRecDepth 100000 in
theorem wc_X9_tellsWhy : Cond.code mX9_tellsWhy.1 mX9_tellsWhy.2.1 mX9_tellsWhy.2.2.1 mX9_tellsWhy.2.2.2 ∈ z_W := z_at1 1126 (by decide +kernel) (by decide +kernel)
set_option maxRecDepth 100000 in
theorem wm_X9_tellsWhy : Cond.instanceMethod yX9_tellsWhy ∈ z_W := z_at1 1125 (by decide +kernel) (by decide +kernel)
set_option maxRecDepth 100000 in
theorem ws_X9_tellsWhy : Cond.selects RX9 yX9_tellsWhy yX9_tellsWhy ∈ z_W := z_at0 45 (by decide +kernel) (by decide +kernel)
abbrev mX9_adds : z_M := (yX9_adds, cX9_adds, 4, none)
set_option maxRecDepth 100000 in
theorem wc_X9_adds : Cond.code mX9_adds.1 mX9_adds.2.1 mX9_adds.2.2.1 mX9_adds.2.2.2 ∈ z_W := z_at1 1130 (by decide +kernel) (by decide +kernel)
set_option maxRecDepth 100000 in
theorem wm_X9_adds : Cond.instanceMethod yX9_adds ∈ z_W := z_at1 1129 (by decide +kernel) (by decide +kernel)
set_option maxRecDepth 100000 in
theorem ws_X9_adds : Cond.selects RX9 yX9_adds yX9_adds ∈ z_W := z_at0 46 (by decide +kernel) (by decide +kernel)
abbrev mX9_done : z_M := (yX9_done, cX9_done, 4, none)
set_option maxRecDepth 100000 in
theorem wc_X9_done : Cond.code mX9_done.1 mX9_done.2.1 mX9_done.2.2.1 mX9_done.2.2.2 ∈ z_W := z_at1 1134 (by decide +kernel) (by decide +kernel)
set_option maxRecDepth 100000 in
theorem wm_X9_done : Cond.instanceMethod yX9_done ∈ z_W := z_at1 1133 (by decide +kernel) (by decide +kernel)
set_option maxRecDepth 100000 in
theorem ws_X9_done : Cond.selects RX9 yX9_done yX9_done ∈ z_W := z_at0 47 (by decide +kernel) (by decide +kernel)
abbrev mX9_run : z_M := (yX9_run, cX9_run, 7, some FieldType.int)
set_option maxRecDepth 100000 in
theorem wc_X9_run : Cond.code mX9_run.1 mX9_run.2.1 mX9_run.2.2.1 mX9_run.2.2.2 ∈ z_W := z_at1 1138 (by decide +kernel) (by decide +kernel)
set_option maxRecDepth 100000 in
theorem wm_X9_run : Cond.instanceMethod yX9_run ∈ z_W := z_at1 1136 (by decide +kernel) (by decide +kernel)
set_option maxRecDepth 100000 in
theorem ws_X9_run : Cond.selects RX9 yX9_run yX9_run ∈ z_W := z_at1 1137 (by decide +kernel) (by decide +kernel)
abbrev mX9_mode : z_M := (yX9_mode, cX9_mode, 3, some FieldType.int)
set_option maxRecDepth 100000 in
theorem wc_X9_mode : Cond.code mX9_mode.1 mX9_mode.2.1 mX9_mode.2.2.1 mX9_mode.2.2.2 ∈ z_W := z_at1 1143 (by decide +kernel) (by decide +kernel)
set_option maxRecDepth 100000 in
theorem wm_X9_mode : Cond.instanceMethod yX9_mode ∈ z_W := z_at1 1141 (by decide +kernel) (by decide +kernel)
set_option maxRecDepth 100000 in
theorem ws_X9_mode : Cond.selects RX9 yX9_mode yX9_mode ∈ z_W := z_at1 1142 (by decide +kernel) (by decide +kernel)
abbrev mX9_cast : z_M := (yX9_cast, cX9_cast, 2, some FieldType.int)
set_option maxRecDepth 100000 in
theorem wc_X9_cast : Cond.code mX9_cast.1 mX9_cast.2.1 mX9_cast.2.2.1 mX9_cast.2.2.2 ∈ z_W := z_at1 1147 (by decide +kernel) (by decide +kernel)
set_option maxRecDepth 100000 in
theorem wm_X9_cast : Cond.instanceMethod yX9_cast ∈ z_W := z_at1 1145 (by decide +kernel) (by decide +kernel)
set_option maxRecDepth 100000 in
theorem ws_X9_cast : Cond.selects RX9 yX9_cast yX9_cast ∈ z_W := z_at1 1146 (by decide +kernel) (by decide +kernel)
abbrev mX9_rip : z_M := (yX9_rip, cX9_rip, 2, some FieldType.int)
set_option maxRecDepth 100000 in
theorem wc_X9_rip : Cond.code mX9_rip.1 mX9_rip.2.1 mX9_rip.2.2.1 mX9_rip.2.2.2 ∈ z_W := z_at1 1152 (by decide +kernel) (by decide +kernel)
set_option maxRecDepth 100000 in
theorem wm_X9_rip : Cond.instanceMethod yX9_rip ∈ z_W := z_at1 1150 (by decide +kernel) (by decide +kernel)
set_option maxRecDepth 100000 in
theorem ws_X9_rip : Cond.selects RX9 yX9_rip yX9_rip ∈ z_W := z_at1 1151 (by decide +kernel) (by decide +kernel)
abbrev mX9_rips : z_M := (yX9_rips, cX9_rips, 2, none)
set_option maxRecDepth 100000 in
theorem wc_X9_rips : Cond.code mX9_rips.1 mX9_rips.2.1 mX9_rips.2.2.1 mX9_rips.2.2.2 ∈ z_W := z_at1 1156 (by decide +kernel) (by decide +kernel)
set_option maxRecDepth 100000 in
theorem wm_X9_rips : Cond.instanceMethod yX9_rips ∈ z_W := z_at1 1155 (by decide +kernel) (by decide +kernel)
set_option maxRecDepth 100000 in
theorem ws_X9_rips : Cond.selects RX9 yX9_rips yX9_rips ∈ z_W := z_at0 48 (by decide +kernel) (by decide +kernel)
abbrev mX9_causes : z_M := (yX9_causes, cX9_causes, 1, some FieldType.int)
set_option maxRecDepth 100000 in
theorem wc_X9_causes : Cond.code mX9_causes.1 mX9_causes.2.1 mX9_causes.2.2.1 mX9_causes.2.2.2 ∈ z_W := z_at1 1160 (by decide +kernel) (by decide +kernel)
set_option maxRecDepth 100000 in
theorem wm_X9_causes : Cond.instanceMethod yX9_causes ∈ z_W := z_at1 1158 (by decide +kernel) (by decide +kernel)
set_option maxRecDepth 100000 in
theorem ws_X9_causes : Cond.selects RX9 yX9_causes yX9_causes ∈ z_W := z_at1 1159 (by decide +kernel) (by decide +kernel)
abbrev mX9_why : z_M := (yX9_why, cX9_why, 3, some FieldType.int)
set_option maxRecDepth 100000 in
theorem wc_X9_why : Cond.code mX9_why.1 mX9_why.2.1 mX9_why.2.2.1 mX9_why.2.2.2 ∈ z_W := z_at1 1164 (by decide +kernel) (by decide +kernel)
set_option maxRecDepth 100000 in
theorem wm_X9_why : Cond.instanceMethod yX9_why ∈ z_W := z_at1 1162 (by decide +kernel) (by decide +kernel)
set_option maxRecDepth 100000 in
theorem ws_X9_why : Cond.selects RX9 yX9_why yX9_why ∈ z_W := z_at1 1163 (by decide +kernel) (by decide +kernel)
abbrev mX9_would : z_M := (yX9_would, cX9_would, 4, some FieldType.int)
set_option maxRecDepth 100000 in
theorem wc_X9_would : Cond.code mX9_would.1 mX9_would.2.1 mX9_would.2.2.1 mX9_would.2.2.2 ∈ z_W := z_at1 1169 (by decide +kernel) (by decide +kernel)
set_option maxRecDepth 100000 in
theorem wm_X9_would : Cond.instanceMethod yX9_would ∈ z_W := z_at1 1167 (by decide +kernel) (by decide +kernel)
set_option maxRecDepth 100000 in
theorem ws_X9_would : Cond.selects RX9 yX9_would yX9_would ∈ z_W := z_at1 1168 (by decide +kernel) (by decide +kernel)
abbrev mX9_yarnTried : z_M := (yX9_yarnTried, cX9_yarnTried, 3, some FieldType.int)
set_option maxRecDepth 100000 in
theorem wc_X9_yarnTried : Cond.code mX9_yarnTried.1 mX9_yarnTried.2.1 mX9_yarnTried.2.2.1 mX9_yarnTried.2.2.2 ∈ z_W := z_at1 1173 (by decide +kernel) (by decide +kernel)
set_option maxRecDepth 100000 in
theorem wm_X9_yarnTried : Cond.instanceMethod yX9_yarnTried ∈ z_W := z_at1 1172 (by decide +kernel) (by decide +kernel)
set_option maxRecDepth 100000 in
theorem ws_X9_yarnTried : Cond.selects RX9 yX9_yarnTried yX9_yarnTried ∈ z_W := z_at0 49 (by decide +kernel) (by decide +kernel)
abbrev mX9_yarnOf : z_M := (yX9_yarnOf, cX9_yarnOf, 1, some FieldType.int)
set_option maxRecDepth 100000 in
theorem wc_X9_yarnOf : Cond.code mX9_yarnOf.1 mX9_yarnOf.2.1 mX9_yarnOf.2.2.1 mX9_yarnOf.2.2.2 ∈ z_W := z_at1 1176 (by decide +kernel) (by decide +kernel)
set_option maxRecDepth 100000 in
theorem wt_X9_yarnOf : Cond.static yX9_yarnOf ∈ z_W := z_at1 1175 (by decide +kernel) (by decide +kernel)
abbrev mX9_hitch : z_M := (yX9_hitch, cX9_hitch, 3, some FieldType.int)
set_option maxRecDepth 100000 in
theorem wc_X9_hitch : Cond.code mX9_hitch.1 mX9_hitch.2.1 mX9_hitch.2.2.1 mX9_hitch.2.2.2 ∈ z_W := z_at1 1180 (by decide +kernel) (by decide +kernel)
set_option maxRecDepth 100000 in
theorem wm_X9_hitch : Cond.instanceMethod yX9_hitch ∈ z_W := z_at1 1178 (by decide +kernel) (by decide +kernel)
set_option maxRecDepth 100000 in
theorem ws_X9_hitch : Cond.selects RX9 yX9_hitch yX9_hitch ∈ z_W := z_at1 1179 (by decide +kernel) (by decide +kernel)
abbrev mX9_fits : z_M := (yX9_fits, cX9_fits, 5, some FieldType.long)
set_option maxRecDepth 100000 in
theorem wc_X9_fits : Cond.code mX9_fits.1 mX9_fits.2.1 mX9_fits.2.2.1 mX9_fits.2.2.2 ∈ z_W := z_at1 1184 (by decide +kernel) (by decide +kernel)
set_option maxRecDepth 100000 in
theorem wm_X9_fits : Cond.instanceMethod yX9_fits ∈ z_W := z_at1 1182 (by decide +kernel) (by decide +kernel)
set_option maxRecDepth 100000 in
theorem ws_X9_fits : Cond.selects RX9 yX9_fits yX9_fits ∈ z_W := z_at1 1183 (by decide +kernel) (by decide +kernel)
abbrev mX9_least : z_M := (yX9_least, cX9_least, 4, some FieldType.int)
set_option maxRecDepth 100000 in
theorem wc_X9_least : Cond.code mX9_least.1 mX9_least.2.1 mX9_least.2.2.1 mX9_least.2.2.2 ∈ z_W := z_at1 1189 (by decide +kernel) (by decide +kernel)
set_option maxRecDepth 100000 in
theorem wm_X9_least : Cond.instanceMethod yX9_least ∈ z_W := z_at1 1187 (by decide +kernel) (by decide +kernel)
set_option maxRecDepth 100000 in
theorem ws_X9_least : Cond.selects RX9 yX9_least yX9_least ∈ z_W := z_at1 1188 (by decide +kernel) (by decide +kernel)
abbrev mX9_times : z_M := (yX9_times, cX9_times, 7, some FieldType.int)
set_option maxRecDepth 100000 in
theorem wc_X9_times : Cond.code mX9_times.1 mX9_times.2.1 mX9_times.2.2.1 mX9_times.2.2.2 ∈ z_W := z_at1 1193 (by decide +kernel) (by decide +kernel)
set_option maxRecDepth 100000 in
theorem wm_X9_times : Cond.instanceMethod yX9_times ∈ z_W := z_at1 1191 (by decide +kernel) (by decide +kernel)
set_option maxRecDepth 100000 in
theorem ws_X9_times : Cond.selects RX9 yX9_times yX9_times ∈ z_W := z_at1 1192 (by decide +kernel) (by decide +kernel)
abbrev mX9_workedOf : z_M := (yX9_workedOf, cX9_workedOf, 5, some FieldType.int)
set_option maxRecDepth 100000 in
theorem wc_X9_workedOf : Cond.code mX9_workedOf.1 mX9_workedOf.2.1 mX9_workedOf.2.2.1 mX9_workedOf.2.2.2 ∈ z_W := z_at1 1197 (by decide +kernel) (by decide +kernel)
set_option maxRecDepth 100000 in
theorem wm_X9_workedOf : Cond.instanceMethod yX9_workedOf ∈ z_W := z_at1 1195 (by decide +kernel) (by decide +kernel)
set_option maxRecDepth 100000 in
theorem ws_X9_workedOf : Cond.selects RX9 yX9_workedOf yX9_workedOf ∈ z_W := z_at1 1196 (by decide +kernel) (by decide +kernel)
abbrev mX9_isWorked : z_M := (yX9_isWorked, cX9_isWorked, 2, some FieldType.boolean)
set_option maxRecDepth 100000 in
theorem wc_X9_isWorked : Cond.code mX9_isWorked.1 mX9_isWorked.2.1 mX9_isWorked.2.2.1 mX9_isWorked.2.2.2 ∈ z_W := z_at1 1201 (by decide +kernel) (by decide +kernel)
set_option maxRecDepth 100000 in
theorem wm_X9_isWorked : Cond.instanceMethod yX9_isWorked ∈ z_W := z_at1 1200 (by decide +kernel) (by decide +kernel)
set_option maxRecDepth 100000 in
theorem ws_X9_isWorked : Cond.selects RX9 yX9_isWorked yX9_isWorked ∈ z_W := z_at0 50 (by decide +kernel) (by decide +kernel)
abbrev mX9_sizeOf : z_M := (yX9_sizeOf, cX9_sizeOf, 2, some FieldType.int)
set_option maxRecDepth 100000 in
theorem wc_X9_sizeOf : Cond.code mX9_sizeOf.1 mX9_sizeOf.2.1 mX9_sizeOf.2.2.1 mX9_sizeOf.2.2.2 ∈ z_W := z_at1 1206 (by decide +kernel) (by decide +kernel)
set_option maxRecDepth 100000 in
theorem wm_X9_sizeOf : Cond.instanceMethod yX9_sizeOf ∈ z_W := z_at1 1205 (by decide +kernel) (by decide +kernel)
set_option maxRecDepth 100000 in
theorem ws_X9_sizeOf : Cond.selects RX9 yX9_sizeOf yX9_sizeOf ∈ z_W := z_at0 51 (by decide +kernel) (by decide +kernel)
abbrev mX9_counted : z_M := (yX9_counted, cX9_counted, 7, some FieldType.int)
set_option maxRecDepth 100000 in
theorem wc_X9_counted : Cond.code mX9_counted.1 mX9_counted.2.1 mX9_counted.2.2.1 mX9_counted.2.2.2 ∈ z_W := z_at1 1210 (by decide +kernel) (by decide +kernel)
set_option maxRecDepth 100000 in
theorem wm_X9_counted : Cond.instanceMethod yX9_counted ∈ z_W := z_at1 1209 (by decide +kernel) (by decide +kernel)
set_option maxRecDepth 100000 in
theorem ws_X9_counted : Cond.selects RX9 yX9_counted yX9_counted ∈ z_W := z_at0 52 (by decide +kernel) (by decide +kernel)
abbrev mX9_kind : z_M := (yX9_kind, cX9_kind, 3, some FieldType.int)
set_option maxRecDepth 100000 in
theorem wc_X9_kind : Cond.code mX9_kind.1 mX9_kind.2.1 mX9_kind.2.2.1 mX9_kind.2.2.2 ∈ z_W := z_at1 1214 (by decide +kernel) (by decide +kernel)
set_option maxRecDepth 100000 in
theorem wm_X9_kind : Cond.instanceMethod yX9_kind ∈ z_W := z_at1 1213 (by decide +kernel) (by decide +kernel)
set_option maxRecDepth 100000 in
theorem ws_X9_kind : Cond.selects RX9 yX9_kind yX9_kind ∈ z_W := z_at0 53 (by decide +kernel) (by decide +kernel)
abbrev mX9_stitch : z_M := (yX9_stitch, cX9_stitch, 4, some FieldType.int)
set_option maxRecDepth 100000 in
theorem wc_X9_stitch : Cond.code mX9_stitch.1 mX9_stitch.2.1 mX9_stitch.2.2.1 mX9_stitch.2.2.2 ∈ z_W := z_at1 1218 (by decide +kernel) (by decide +kernel)
set_option maxRecDepth 100000 in
theorem wm_X9_stitch : Cond.instanceMethod yX9_stitch ∈ z_W := z_at1 1216 (by decide +kernel) (by decide +kernel)
set_option maxRecDepth 100000 in
theorem ws_X9_stitch : Cond.selects RX9 yX9_stitch yX9_stitch ∈ z_W := z_at1 1217 (by decide +kernel) (by decide +kernel)
abbrev mX9_chart : z_M := (yX9_chart, cX9_chart, 3, some FieldType.int)
set_option maxRecDepth 100000 in
theorem wc_X9_chart : Cond.code mX9_chart.1 mX9_chart.2.1 mX9_chart.2.2.1 mX9_chart.2.2.2 ∈ z_W := z_at1 1222 (by decide +kernel) (by decide +kernel)
set_option maxRecDepth 100000 in
theorem wm_X9_chart : Cond.instanceMethod yX9_chart ∈ z_W := z_at1 1220 (by decide +kernel) (by decide +kernel)
set_option maxRecDepth 100000 in
theorem ws_X9_chart : Cond.selects RX9 yX9_chart yX9_chart ∈ z_W := z_at1 1221 (by decide +kernel) (by decide +kernel)
abbrev mX9_charted : z_M := (yX9_charted, cX9_charted, 4, some FieldType.int)
set_option maxRecDepth 100000 in
theorem wc_X9_charted : Cond.code mX9_charted.1 mX9_charted.2.1 mX9_charted.2.2.1 mX9_charted.2.2.2 ∈ z_W := z_at1 1226 (by decide +kernel) (by decide +kernel)
set_option maxRecDepth 100000 in
theorem wm_X9_charted : Cond.instanceMethod yX9_charted ∈ z_W := z_at1 1225 (by decide +kernel) (by decide +kernel)
set_option maxRecDepth 100000 in
theorem ws_X9_charted : Cond.selects RX9 yX9_charted yX9_charted ∈ z_W := z_at0 54 (by decide +kernel) (by decide +kernel)
abbrev mX9_turn : z_M := (yX9_turn, cX9_turn, 1, some FieldType.int)
set_option maxRecDepth 100000 in
theorem wc_X9_turn : Cond.code mX9_turn.1 mX9_turn.2.1 mX9_turn.2.2.1 mX9_turn.2.2.2 ∈ z_W := z_at1 1229 (by decide +kernel) (by decide +kernel)
set_option maxRecDepth 100000 in
theorem wt_X9_turn : Cond.static yX9_turn ∈ z_W := z_at1 1228 (by decide +kernel) (by decide +kernel)
abbrev mX9_mirror : z_M := (yX9_mirror, cX9_mirror, 1, some FieldType.int)
set_option maxRecDepth 100000 in
theorem wc_X9_mirror : Cond.code mX9_mirror.1 mX9_mirror.2.1 mX9_mirror.2.2.1 mX9_mirror.2.2.2 ∈ z_W := z_at1 1232 (by decide +kernel) (by decide +kernel)
set_option maxRecDepth 100000 in
theorem wt_X9_mirror : Cond.static yX9_mirror ∈ z_W := z_at1 1231 (by decide +kernel) (by decide +kernel)
abbrev mX9_shorthand : z_M := (yX9_shorthand, cX9_shorthand, 13, some FieldType.int)
set_option maxRecDepth 100000 in
theorem wc_X9_shorthand : Cond.code mX9_shorthand.1 mX9_shorthand.2.1 mX9_shorthand.2.2.1 mX9_shorthand.2.2.2 ∈ z_W := z_at1 1236 (by decide +kernel) (by decide +kernel)
set_option maxRecDepth 100000 in
theorem wm_X9_shorthand : Cond.instanceMethod yX9_shorthand ∈ z_W := z_at1 1234 (by decide +kernel) (by decide +kernel)
set_option maxRecDepth 100000 in
theorem ws_X9_shorthand : Cond.selects RX9 yX9_shorthand yX9_shorthand ∈ z_W := z_at1 1235 (by decide +kernel) (by decide +kernel)
abbrev mX9_letter : z_M := (yX9_letter, cX9_letter, 4, some FieldType.int)
set_option maxRecDepth 100000 in
theorem wc_X9_letter : Cond.code mX9_letter.1 mX9_letter.2.1 mX9_letter.2.2.1 mX9_letter.2.2.2 ∈ z_W := z_at1 1239 (by decide +kernel) (by decide +kernel)
set_option maxRecDepth 100000 in
theorem wt_X9_letter : Cond.static yX9_letter ∈ z_W := z_at1 1238 (by decide +kernel) (by decide +kernel)
abbrev mX9_unit : z_M := (yX9_unit, cX9_unit, 6, some FieldType.int)
set_option maxRecDepth 100000 in
theorem wc_X9_unit : Cond.code mX9_unit.1 mX9_unit.2.1 mX9_unit.2.2.1 mX9_unit.2.2.2 ∈ z_W := z_at1 1243 (by decide +kernel) (by decide +kernel)
set_option maxRecDepth 100000 in
theorem wm_X9_unit : Cond.instanceMethod yX9_unit ∈ z_W := z_at1 1241 (by decide +kernel) (by decide +kernel)
set_option maxRecDepth 100000 in
theorem ws_X9_unit : Cond.selects RX9 yX9_unit yX9_unit ∈ z_W := z_at1 1242 (by decide +kernel) (by decide +kernel)
abbrev mX9_mirrored : z_M := (yX9_mirrored, cX9_mirrored, 3, some FieldType.int)
set_option maxRecDepth 100000 in
theorem wc_X9_mirrored : Cond.code mX9_mirrored.1 mX9_mirrored.2.1 mX9_mirrored.2.2.1 mX9_mirrored.2.2.2 ∈ z_W := z_at1 1247 (by decide +kernel) (by decide +kernel)
set_option maxRecDepth 100000 in
theorem wm_X9_mirrored : Cond.instanceMethod yX9_mirrored ∈ z_W := z_at1 1245 (by decide +kernel) (by decide +kernel)
set_option maxRecDepth 100000 in
theorem ws_X9_mirrored : Cond.selects RX9 yX9_mirrored yX9_mirrored ∈ z_W := z_at1 1246 (by decide +kernel) (by decide +kernel)
abbrev mX9_mirroredAt : z_M := (yX9_mirroredAt, cX9_mirroredAt, 4, some FieldType.int)
set_option maxRecDepth 100000 in
theorem wc_X9_mirroredAt : Cond.code mX9_mirroredAt.1 mX9_mirroredAt.2.1 mX9_mirroredAt.2.2.1 mX9_mirroredAt.2.2.2 ∈ z_W := z_at1 1251 (by decide +kernel) (by decide +kernel)
set_option maxRecDepth 100000 in
theorem wm_X9_mirroredAt : Cond.instanceMethod yX9_mirroredAt ∈ z_W := z_at1 1250 (by decide +kernel) (by decide +kernel)
set_option maxRecDepth 100000 in
theorem ws_X9_mirroredAt : Cond.selects RX9 yX9_mirroredAt yX9_mirroredAt ∈ z_W := z_at0 55 (by decide +kernel) (by decide +kernel)
abbrev mX9_even : z_M := (yX9_even, cX9_even, 4, some FieldType.int)
set_option maxRecDepth 100000 in
theorem wc_X9_even : Cond.code mX9_even.1 mX9_even.2.1 mX9_even.2.2.1 mX9_even.2.2.2 ∈ z_W := z_at1 1255 (by decide +kernel) (by decide +kernel)
set_option maxRecDepth 100000 in
theorem wm_X9_even : Cond.instanceMethod yX9_even ∈ z_W := z_at1 1253 (by decide +kernel) (by decide +kernel)
set_option maxRecDepth 100000 in
theorem ws_X9_even : Cond.selects RX9 yX9_even yX9_even ∈ z_W := z_at1 1254 (by decide +kernel) (by decide +kernel)
abbrev mX9_roots : z_M := (yX9_roots, cX9_roots, 3, some FieldType.long)
set_option maxRecDepth 100000 in
theorem wc_X9_roots : Cond.code mX9_roots.1 mX9_roots.2.1 mX9_roots.2.2.1 mX9_roots.2.2.2 ∈ z_W := z_at1 1259 (by decide +kernel) (by decide +kernel)
set_option maxRecDepth 100000 in
theorem wm_X9_roots : Cond.instanceMethod yX9_roots ∈ z_W := z_at1 1257 (by decide +kernel) (by decide +kernel)
set_option maxRecDepth 100000 in
theorem ws_X9_roots : Cond.selects RX9 yX9_roots yX9_roots ∈ z_W := z_at1 1258 (by decide +kernel) (by decide +kernel)
abbrev mX9_madeBy : z_M := (yX9_madeBy, cX9_madeBy, 2, some FieldType.int)
set_option maxRecDepth 100000 in
theorem wc_X9_madeBy : Cond.code mX9_madeBy.1 mX9_madeBy.2.1 mX9_madeBy.2.2.1 mX9_madeBy.2.2.2 ∈ z_W := z_at1 1263 (by decide +kernel) (by decide +kernel)
set_option maxRecDepth 100000 in
theorem wm_X9_madeBy : Cond.instanceMethod yX9_madeBy ∈ z_W := z_at1 1262 (by decide +kernel) (by decide +kernel)
set_option maxRecDepth 100000 in
theorem ws_X9_madeBy : Cond.selects RX9 yX9_madeBy yX9_madeBy ∈ z_W := z_at0 56 (by decide +kernel) (by decide +kernel)
abbrev mX9_rooted : z_M := (yX9_rooted, cX9_rooted, 7, some FieldType.long)
set_option maxRecDepth 100000 in
theorem wc_X9_rooted : Cond.code mX9_rooted.1 mX9_rooted.2.1 mX9_rooted.2.2.1 mX9_rooted.2.2.2 ∈ z_W := z_at1 1267 (by decide +kernel) (by decide +kernel)
set_option maxRecDepth 100000 in
theorem wm_X9_rooted : Cond.instanceMethod yX9_rooted ∈ z_W := z_at1 1266 (by decide +kernel) (by decide +kernel)
set_option maxRecDepth 100000 in
theorem ws_X9_rooted : Cond.selects RX9 yX9_rooted yX9_rooted ∈ z_W := z_at0 57 (by decide +kernel) (by decide +kernel)
abbrev mX9_origin : z_M := (yX9_origin, cX9_origin, 10, some FieldType.long)
set_option maxRecDepth 100000 in
theorem wc_X9_origin : Cond.code mX9_origin.1 mX9_origin.2.1 mX9_origin.2.2.1 mX9_origin.2.2.2 ∈ z_W := z_at1 1271 (by decide +kernel) (by decide +kernel)
set_option maxRecDepth 100000 in
theorem wm_X9_origin : Cond.instanceMethod yX9_origin ∈ z_W := z_at1 1269 (by decide +kernel) (by decide +kernel)
set_option maxRecDepth 100000 in
theorem ws_X9_origin : Cond.selects RX9 yX9_origin yX9_origin ∈ z_W := z_at1 1270 (by decide +kernel) (by decide +kernel)
abbrev mX9_yarn : z_M := (yX9_yarn, cX9_yarn, 4, some FieldType.long)
set_option maxRecDepth 100000 in
theorem wc_X9_yarn : Cond.code mX9_yarn.1 mX9_yarn.2.1 mX9_yarn.2.2.1 mX9_yarn.2.2.2 ∈ z_W := z_at1 1275 (by decide +kernel) (by decide +kernel)
set_option maxRecDepth 100000 in
theorem wm_X9_yarn : Cond.instanceMethod yX9_yarn ∈ z_W := z_at1 1273 (by decide +kernel) (by decide +kernel)
set_option maxRecDepth 100000 in
theorem ws_X9_yarn : Cond.selects RX9 yX9_yarn yX9_yarn ∈ z_W := z_at1 1274 (by decide +kernel) (by decide +kernel)
abbrev mX9_many : z_M := (yX9_many, cX9_many, 5, some FieldType.int)
set_option maxRecDepth 100000 in
theorem wc_X9_many : Cond.code mX9_many.1 mX9_many.2.1 mX9_many.2.2.1 mX9_many.2.2.2 ∈ z_W := z_at1 1279 (by decide +kernel) (by decide +kernel)
set_option maxRecDepth 100000 in
theorem wm_X9_many : Cond.instanceMethod yX9_many ∈ z_W := z_at1 1277 (by decide +kernel) (by decide +kernel)
set_option maxRecDepth 100000 in
theorem ws_X9_many : Cond.selects RX9 yX9_many yX9_many ∈ z_W := z_at1 1278 (by decide +kernel) (by decide +kernel)
abbrev mX9_isUnder : z_M := (yX9_isUnder, cX9_isUnder, 2, some FieldType.boolean)
set_option maxRecDepth 100000 in
theorem wc_X9_isUnder : Cond.code mX9_isUnder.1 mX9_isUnder.2.1 mX9_isUnder.2.2.1 mX9_isUnder.2.2.2 ∈ z_W := z_at1 1283 (by decide +kernel) (by decide +kernel)
set_option maxRecDepth 100000 in
theorem wt_X9_isUnder : Cond.static yX9_isUnder ∈ z_W := z_at1 1282 (by decide +kernel) (by decide +kernel)
abbrev mX9_differ : z_M := (yX9_differ, cX9_differ, 5, some FieldType.int)
set_option maxRecDepth 100000 in
theorem wc_X9_differ : Cond.code mX9_differ.1 mX9_differ.2.1 mX9_differ.2.2.1 mX9_differ.2.2.2 ∈ z_W := z_at1 1287 (by decide +kernel) (by decide +kernel)
set_option maxRecDepth 100000 in
theorem wm_X9_differ : Cond.instanceMethod yX9_differ ∈ z_W := z_at1 1285 (by decide +kernel) (by decide +kernel)
set_option maxRecDepth 100000 in
theorem ws_X9_differ : Cond.selects RX9 yX9_differ yX9_differ ∈ z_W := z_at1 1286 (by decide +kernel) (by decide +kernel)
abbrev mX9_row : z_M := (yX9_row, cX9_row, 5, some FieldType.int)
set_option maxRecDepth 100000 in
theorem wc_X9_row : Cond.code mX9_row.1 mX9_row.2.1 mX9_row.2.2.1 mX9_row.2.2.2 ∈ z_W := z_at1 1291 (by decide +kernel) (by decide +kernel)
set_option maxRecDepth 100000 in
theorem wm_X9_row : Cond.instanceMethod yX9_row ∈ z_W := z_at1 1289 (by decide +kernel) (by decide +kernel)
set_option maxRecDepth 100000 in
theorem ws_X9_row : Cond.selects RX9 yX9_row yX9_row ∈ z_W := z_at1 1290 (by decide +kernel) (by decide +kernel)
abbrev mX9_isShelf : z_M := (yX9_isShelf, cX9_isShelf, 1, some FieldType.boolean)
set_option maxRecDepth 100000 in
theorem wc_X9_isShelf : Cond.code mX9_isShelf.1 mX9_isShelf.2.1 mX9_isShelf.2.2.1 mX9_isShelf.2.2.2 ∈ z_W := z_at1 1294 (by decide +kernel) (by decide +kernel)
set_option maxRecDepth 100000 in
theorem wt_X9_isShelf : Cond.static yX9_isShelf ∈ z_W := z_at1 1293 (by decide +kernel) (by decide +kernel)
abbrev mX9_set : z_M := (yX9_set, cX9_set, 7, some FieldType.int)
set_option maxRecDepth 100000 in
theorem wc_X9_set : Cond.code mX9_set.1 mX9_set.2.1 mX9_set.2.2.1 mX9_set.2.2.2 ∈ z_W := z_at1 1301 (by decide +kernel) (by decide +kernel)
set_option maxRecDepth 100000 in
theorem wm_X9_set : Cond.instanceMethod yX9_set ∈ z_W := z_at1 1299 (by decide +kernel) (by decide +kernel)
set_option maxRecDepth 100000 in
theorem ws_X9_set : Cond.selects RX9 yX9_set yX9_set ∈ z_W := z_at1 1300 (by decide +kernel) (by decide +kernel)
abbrev mX9_amiss : z_M := (yX9_amiss, cX9_amiss, 2, some FieldType.int)
set_option maxRecDepth 100000 in
theorem wc_X9_amiss : Cond.code mX9_amiss.1 mX9_amiss.2.1 mX9_amiss.2.2.1 mX9_amiss.2.2.2 ∈ z_W := z_at1 1305 (by decide +kernel) (by decide +kernel)
set_option maxRecDepth 100000 in
theorem wm_X9_amiss : Cond.instanceMethod yX9_amiss ∈ z_W := z_at1 1304 (by decide +kernel) (by decide +kernel)
set_option maxRecDepth 100000 in
theorem ws_X9_amiss : Cond.selects RX9 yX9_amiss yX9_amiss ∈ z_W := z_at0 58 (by decide +kernel) (by decide +kernel)
abbrev mX9_copy : z_M := (yX9_copy, cX9_copy, 9, some FieldType.int)
set_option maxRecDepth 100000 in
theorem wc_X9_copy : Cond.code mX9_copy.1 mX9_copy.2.1 mX9_copy.2.2.1 mX9_copy.2.2.2 ∈ z_W := z_at1 1309 (by decide +kernel) (by decide +kernel)
set_option maxRecDepth 100000 in
theorem wm_X9_copy : Cond.instanceMethod yX9_copy ∈ z_W := z_at1 1307 (by decide +kernel) (by decide +kernel)
set_option maxRecDepth 100000 in
theorem ws_X9_copy : Cond.selects RX9 yX9_copy yX9_copy ∈ z_W := z_at1 1308 (by decide +kernel) (by decide +kernel)
abbrev mX9_element : z_M := (yX9_element, cX9_element, 3, some FieldType.long)
set_option maxRecDepth 100000 in
theorem wc_X9_element : Cond.code mX9_element.1 mX9_element.2.1 mX9_element.2.2.1 mX9_element.2.2.2 ∈ z_W := z_at1 1313 (by decide +kernel) (by decide +kernel)
set_option maxRecDepth 100000 in
theorem wm_X9_element : Cond.instanceMethod yX9_element ∈ z_W := z_at1 1311 (by decide +kernel) (by decide +kernel)
set_option maxRecDepth 100000 in
theorem ws_X9_element : Cond.selects RX9 yX9_element yX9_element ∈ z_W := z_at1 1312 (by decide +kernel) (by decide +kernel)
abbrev mX9_holds : z_M := (yX9_holds, cX9_holds, 2, some FieldType.int)
set_option maxRecDepth 100000 in
theorem wc_X9_holds : Cond.code mX9_holds.1 mX9_holds.2.1 mX9_holds.2.2.1 mX9_holds.2.2.2 ∈ z_W := z_at1 1317 (by decide +kernel) (by decide +kernel)
set_option maxRecDepth 100000 in
theorem wm_X9_holds : Cond.instanceMethod yX9_holds ∈ z_W := z_at1 1315 (by decide +kernel) (by decide +kernel)
set_option maxRecDepth 100000 in
theorem ws_X9_holds : Cond.selects RX9 yX9_holds yX9_holds ∈ z_W := z_at1 1316 (by decide +kernel) (by decide +kernel)
abbrev mX9_show : z_M := (yX9_show, cX9_show, 4, some FieldType.int)
set_option maxRecDepth 100000 in
theorem wc_X9_show : Cond.code mX9_show.1 mX9_show.2.1 mX9_show.2.2.1 mX9_show.2.2.2 ∈ z_W := z_at1 1321 (by decide +kernel) (by decide +kernel)
set_option maxRecDepth 100000 in
theorem wm_X9_show : Cond.instanceMethod yX9_show ∈ z_W := z_at1 1319 (by decide +kernel) (by decide +kernel)
set_option maxRecDepth 100000 in
theorem ws_X9_show : Cond.selects RX9 yX9_show yX9_show ∈ z_W := z_at1 1320 (by decide +kernel) (by decide +kernel)
abbrev mX9_says : z_M := (yX9_says, cX9_says, 4, some FieldType.int)
set_option maxRecDepth 100000 in
theorem wc_X9_says : Cond.code mX9_says.1 mX9_says.2.1 mX9_says.2.2.1 mX9_says.2.2.2 ∈ z_W := z_at1 1325 (by decide +kernel) (by decide +kernel)
set_option maxRecDepth 100000 in
theorem wm_X9_says : Cond.instanceMethod yX9_says ∈ z_W := z_at1 1323 (by decide +kernel) (by decide +kernel)
set_option maxRecDepth 100000 in
theorem ws_X9_says : Cond.selects RX9 yX9_says yX9_says ∈ z_W := z_at1 1324 (by decide +kernel) (by decide +kernel)
abbrev mX9_judge : z_M := (yX9_judge, cX9_judge, 6, some FieldType.int)
set_option maxRecDepth 100000 in
theorem wc_X9_judge : Cond.code mX9_judge.1 mX9_judge.2.1 mX9_judge.2.2.1 mX9_judge.2.2.2 ∈ z_W := z_at1 1329 (by decide +kernel) (by decide +kernel)
set_option maxRecDepth 100000 in
theorem wm_X9_judge : Cond.instanceMethod yX9_judge ∈ z_W := z_at1 1327 (by decide +kernel) (by decide +kernel)
set_option maxRecDepth 100000 in
theorem ws_X9_judge : Cond.selects RX9 yX9_judge yX9_judge ∈ z_W := z_at1 1328 (by decide +kernel) (by decide +kernel)
abbrev mX9_days : z_M := (yX9_days, cX9_days, 5, some FieldType.int)
set_option maxRecDepth 100000 in
theorem wc_X9_days : Cond.code mX9_days.1 mX9_days.2.1 mX9_days.2.2.1 mX9_days.2.2.2 ∈ z_W := z_at1 1333 (by decide +kernel) (by decide +kernel)
set_option maxRecDepth 100000 in
theorem wm_X9_days : Cond.instanceMethod yX9_days ∈ z_W := z_at1 1331 (by decide +kernel) (by decide +kernel)
set_option maxRecDepth 100000 in
theorem ws_X9_days : Cond.selects RX9 yX9_days yX9_days ∈ z_W := z_at1 1332 (by decide +kernel) (by decide +kernel)
abbrev mX9_draw : z_M := (yX9_draw, cX9_draw, 2, some FieldType.int)
set_option maxRecDepth 100000 in
theorem wc_X9_draw : Cond.code mX9_draw.1 mX9_draw.2.1 mX9_draw.2.2.1 mX9_draw.2.2.2 ∈ z_W := z_at1 1337 (by decide +kernel) (by decide +kernel)
set_option maxRecDepth 100000 in
theorem wm_X9_draw : Cond.instanceMethod yX9_draw ∈ z_W := z_at1 1336 (by decide +kernel) (by decide +kernel)
set_option maxRecDepth 100000 in
theorem ws_X9_draw : Cond.selects RX9 yX9_draw yX9_draw ∈ z_W := z_at0 59 (by decide +kernel) (by decide +kernel)
abbrev mX9_seed : z_M := (yX9_seed, cX9_seed, 3, some FieldType.int)
set_option maxRecDepth 100000 in
theorem wc_X9_seed : Cond.code mX9_seed.1 mX9_seed.2.1 mX9_seed.2.2.1 mX9_seed.2.2.2 ∈ z_W := z_at1 1342 (by decide +kernel) (by decide +kernel)
set_option maxRecDepth 100000 in
theorem wm_X9_seed : Cond.instanceMethod yX9_seed ∈ z_W := z_at1 1340 (by decide +kernel) (by decide +kernel)
set_option maxRecDepth 100000 in
theorem ws_X9_seed : Cond.selects RX9 yX9_seed yX9_seed ∈ z_W := z_at1 1341 (by decide +kernel) (by decide +kernel)
abbrev mX9_image : z_M := (yX9_image, cX9_image, 1, some FieldType.int)
set_option maxRecDepth 100000 in
theorem wc_X9_image : Cond.code mX9_image.1 mX9_image.2.1 mX9_image.2.2.1 mX9_image.2.2.2 ∈ z_W := z_at1 1346 (by decide +kernel) (by decide +kernel)
set_option maxRecDepth 100000 in
theorem wm_X9_image : Cond.instanceMethod yX9_image ∈ z_W := z_at1 1344 (by decide +kernel) (by decide +kernel)
set_option maxRecDepth 100000 in
theorem ws_X9_image : Cond.selects RX9 yX9_image yX9_image ∈ z_W := z_at1 1345 (by decide +kernel) (by decide +kernel)
abbrev mX9_pours : z_M := (yX9_pours, cX9_pours, 3, none)
set_option maxRecDepth 100000 in
theorem wc_X9_pours : Cond.code mX9_pours.1 mX9_pours.2.1 mX9_pours.2.2.1 mX9_pours.2.2.2 ∈ z_W := z_at1 1349 (by decide +kernel) (by decide +kernel)
set_option maxRecDepth 100000 in
theorem wt_X9_pours : Cond.static yX9_pours ∈ z_W := z_at1 1348 (by decide +kernel) (by decide +kernel)
abbrev mX9_back : z_M := (yX9_back, cX9_back, 1, some FieldType.int)
set_option maxRecDepth 100000 in
theorem wc_X9_back : Cond.code mX9_back.1 mX9_back.2.1 mX9_back.2.2.1 mX9_back.2.2.2 ∈ z_W := z_at1 1353 (by decide +kernel) (by decide +kernel)
set_option maxRecDepth 100000 in
theorem wm_X9_back : Cond.instanceMethod yX9_back ∈ z_W := z_at1 1351 (by decide +kernel) (by decide +kernel)
set_option maxRecDepth 100000 in
theorem ws_X9_back : Cond.selects RX9 yX9_back yX9_back ∈ z_W := z_at1 1352 (by decide +kernel) (by decide +kernel)
abbrev mX9_status : z_M := (yX9_status, cX9_status, 4, some FieldType.int)
set_option maxRecDepth 100000 in
theorem wc_X9_status : Cond.code mX9_status.1 mX9_status.2.1 mX9_status.2.2.1 mX9_status.2.2.2 ∈ z_W := z_at1 1357 (by decide +kernel) (by decide +kernel)
set_option maxRecDepth 100000 in
theorem wm_X9_status : Cond.instanceMethod yX9_status ∈ z_W := z_at1 1355 (by decide +kernel) (by decide +kernel)
set_option maxRecDepth 100000 in
theorem ws_X9_status : Cond.selects RX9 yX9_status yX9_status ∈ z_W := z_at1 1356 (by decide +kernel) (by decide +kernel)
set_option maxRecDepth 100000 in
theorem wo_i : Cond.instanceMethod objectInit ∈ z_W := z_at1 24 (by decide +kernel) (by decide +kernel)
set_option maxRecDepth 100000 in
theorem wo_c : Cond.code objectInit ⟨#[0xb1]⟩ 1 none ∈ z_W := z_at1 25 (by decide +kernel) (by decide +kernel)
set_option maxRecDepth 100000 in
theorem wac_n : Cond.native arraycopyName ∈ z_W := z_at1 278 (by decide +kernel) (by decide +kernel)
set_option maxRecDepth 100000 in
theorem wac_s : Cond.static arraycopyName ∈ z_W := z_at1 277 (by decide +kernel) (by decide +kernel)
set_option maxRecDepth 100000 in
theorem wac_i : Cond.initialized "java/lang/System" ∈ z_W := z_at1 11 (by decide +kernel) (by decide +kernel)
set_option maxRecDepth 100000 in
theorem wM_max_s : Cond.static Lib.Math.max.name ∈ z_W := z_at1 378 (by decide +kernel) (by decide +kernel)
set_option maxRecDepth 100000 in
theorem wM_max_c : Cond.code Lib.Math.max.name Lib.Math.max.code 2 (some .int) ∈ z_W := z_at1 379 (by decide +kernel) (by decide +kernel)
set_option maxRecDepth 100000 in
theorem wM_min_s : Cond.static Lib.Math.min.name ∈ z_W := z_at1 274 (by decide +kernel) (by decide +kernel)
set_option maxRecDepth 100000 in
theorem wM_min_c : Cond.code Lib.Math.min.name Lib.Math.min.code 2 (some .int) ∈ z_W := z_at1 275 (by decide +kernel) (by decide +kernel)
set_option maxRecDepth 100000 in
theorem wM_i : Cond.initialized "java/lang/Math" ∈ z_W := z_at1 10 (by decide +kernel) (by decide +kernel)
set_option maxRecDepth 100000 in
theorem wA_I : Cond.arrayClass .int ∈ z_W := z_at1 58 (by decide +kernel) (by decide +kernel)
set_option maxRecDepth 100000 in
theorem wA_J : Cond.arrayClass .long ∈ z_W := z_at1 180 (by decide +kernel) (by decide +kernel)
