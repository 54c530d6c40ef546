def WW : List Cond := lw_tbl.filter goodWord
theorem wwOf {w : Cond} (h : w ∈ lw_tbl) (g : goodWord w = true) : w ∈ WW := List.mem_filter.mpr ⟨h, g⟩
theorem ww_tbl : ∀ w ∈ WW, w ∈ lw_tbl := fun _ h => (List.mem_filter.mp h).1
theorem ww_good : ∀ w ∈ WW, goodWord w = true := fun _ h => (List.mem_filter.mp h).2
theorem tbS {w : Cond} (h : w ∈ k2_sels lw_privs) : w ∈ lw_tbl := List.mem_append_left _ h
theorem tb1 {w : Cond} (h : w ∈ tables_1_1) : w ∈ lw_tbl := List.mem_append_right _ (List.mem_append_left _ h)
theorem tb2 {w : Cond} (h : w ∈ tables_1_2) : w ∈ lw_tbl := List.mem_append_right _ (List.mem_append_right _ (List.mem_append_left _ h))
theorem tb3 {w : Cond} (h : w ∈ tables_1_3) : w ∈ lw_tbl := List.mem_append_right _ (List.mem_append_right _ (List.mem_append_right _ (List.mem_append_left _ h)))
theorem tb4 {w : Cond} (h : w ∈ tables_1_4) : w ∈ lw_tbl := List.mem_append_right _ (List.mem_append_right _ (List.mem_append_right _ (List.mem_append_right _ (h))))
theorem kw_0 : (Cond.fieldLink RX5 42 "KeyTurner" "secretCount" "I") ∈ WW := wwOf (tb1 (List.mem_of_getElem? (i := 162) rfl)) rfl
theorem kw_1 : (Cond.fieldLink RX2 15 "KeyTurner$People" "downBits" "I") ∈ WW := wwOf (tb1 (List.mem_of_getElem? (i := 47) rfl)) rfl
theorem kw_2 : (Cond.fieldLink RX1 15 "KeyTurner$Log" "begun" "I") ∈ WW := wwOf (tb1 (List.mem_of_getElem? (i := 62) rfl)) rfl
theorem kw_3 : (Cond.fieldLink RX6 123 "KeyTurnerModel" "secrets" "I") ∈ WW := wwOf (tb3 (List.mem_of_getElem? (i := 43) rfl)) rfl
theorem kw_4 : (Cond.fieldLink RX6 120 "KeyTurnerModel" "thrown" "I") ∈ WW := wwOf (tb3 (List.mem_of_getElem? (i := 41) rfl)) rfl
theorem lyX0_0 : u_lay RX0 TX0 0 ∈ WW := wwOf (tb1 (List.mem_of_getElem? (i := 138) rfl)) rfl
theorem lyX0_1 : u_lay RX0 TX0 1 ∈ WW := wwOf (tb1 (List.mem_of_getElem? (i := 140) rfl)) rfl
theorem lyX0_2 : u_lay RX0 TX0 2 ∈ WW := wwOf (tb1 (List.mem_of_getElem? (i := 142) rfl)) rfl
theorem lyX0_3 : u_lay RX0 TX0 3 ∈ WW := wwOf (tb1 (List.mem_of_getElem? (i := 144) rfl)) rfl
theorem lyX0_4 : u_lay RX0 TX0 4 ∈ WW := wwOf (tb1 (List.mem_of_getElem? (i := 146) rfl)) rfl
theorem lyX0_5 : u_lay RX0 TX0 5 ∈ WW := wwOf (tb1 (List.mem_of_getElem? (i := 148) rfl)) rfl
theorem lyX0_6 : u_lay RX0 TX0 6 ∈ WW := wwOf (tb1 (List.mem_of_getElem? (i := 150) rfl)) rfl
theorem lyX0_7 : u_lay RX0 TX0 7 ∈ WW := wwOf (tb1 (List.mem_of_getElem? (i := 152) rfl)) rfl
theorem lyX0_8 : u_lay RX0 TX0 8 ∈ WW := wwOf (tb1 (List.mem_of_getElem? (i := 154) rfl)) rfl
theorem inWX0 : ∀ w ∈ u_ws RX0 TX0 9, w ∈ WW := by
  intro w h
  obtain ⟨k, hk, rfl⟩ := List.mem_map.mp h
  have hk := List.mem_range.mp hk
  match k, hk with
  | 0, _ => exact lyX0_0
  | 1, _ => exact lyX0_1
  | 2, _ => exact lyX0_2
  | 3, _ => exact lyX0_3
  | 4, _ => exact lyX0_4
  | 5, _ => exact lyX0_5
  | 6, _ => exact lyX0_6
  | 7, _ => exact lyX0_7
  | 8, _ => exact lyX0_8
  | k + 9, h => exact absurd h (by omega)
theorem lyX1_0 : u_lay RX1 TX1 0 ∈ WW := wwOf (tb1 (List.mem_of_getElem? (i := 64) rfl)) rfl
theorem lyX1_1 : u_lay RX1 TX1 1 ∈ WW := wwOf (tb1 (List.mem_of_getElem? (i := 66) rfl)) rfl
theorem inWX1 : ∀ w ∈ u_ws RX1 TX1 2, w ∈ WW := by
  intro w h
  obtain ⟨k, hk, rfl⟩ := List.mem_map.mp h
  have hk := List.mem_range.mp hk
  match k, hk with
  | 0, _ => exact lyX1_0
  | 1, _ => exact lyX1_1
  | k + 2, h => exact absurd h (by omega)
theorem lyX2_0 : u_lay RX2 TX2 0 ∈ WW := wwOf (tb1 (List.mem_of_getElem? (i := 49) rfl)) rfl
theorem lyX2_1 : u_lay RX2 TX2 1 ∈ WW := wwOf (tb1 (List.mem_of_getElem? (i := 51) rfl)) rfl
theorem inWX2 : ∀ w ∈ u_ws RX2 TX2 2, w ∈ WW := by
  intro w h
  obtain ⟨k, hk, rfl⟩ := List.mem_map.mp h
  have hk := List.mem_range.mp hk
  match k, hk with
  | 0, _ => exact lyX2_0
  | 1, _ => exact lyX2_1
  | k + 2, h => exact absurd h (by omega)
theorem lyX3_0 : u_lay RX3 TX3 0 ∈ WW := wwOf (tb1 (List.mem_of_getElem? (i := 103) rfl)) rfl
theorem lyX3_1 : u_lay RX3 TX3 1 ∈ WW := wwOf (tb1 (List.mem_of_getElem? (i := 105) rfl)) rfl
theorem lyX3_2 : u_lay RX3 TX3 2 ∈ WW := wwOf (tb1 (List.mem_of_getElem? (i := 107) rfl)) rfl
theorem lyX3_3 : u_lay RX3 TX3 3 ∈ WW := wwOf (tb1 (List.mem_of_getElem? (i := 109) rfl)) rfl
theorem lyX3_4 : u_lay RX3 TX3 4 ∈ WW := wwOf (tb1 (List.mem_of_getElem? (i := 111) rfl)) rfl
theorem lyX3_5 : u_lay RX3 TX3 5 ∈ WW := wwOf (tb1 (List.mem_of_getElem? (i := 113) rfl)) rfl
theorem lyX3_6 : u_lay RX3 TX3 6 ∈ WW := wwOf (tb1 (List.mem_of_getElem? (i := 115) rfl)) rfl
theorem lyX3_7 : u_lay RX3 TX3 7 ∈ WW := wwOf (tb1 (List.mem_of_getElem? (i := 117) rfl)) rfl
theorem lyX3_8 : u_lay RX3 TX3 8 ∈ WW := wwOf (tb1 (List.mem_of_getElem? (i := 119) rfl)) rfl
theorem lyX3_9 : u_lay RX3 TX3 9 ∈ WW := wwOf (tb1 (List.mem_of_getElem? (i := 121) rfl)) rfl
theorem inWX3 : ∀ w ∈ u_ws RX3 TX3 10, w ∈ WW := by
  intro w h
  obtain ⟨k, hk, rfl⟩ := List.mem_map.mp h
  have hk := List.mem_range.mp hk
  match k, hk with
  | 0, _ => exact lyX3_0
  | 1, _ => exact lyX3_1
  | 2, _ => exact lyX3_2
  | 3, _ => exact lyX3_3
  | 4, _ => exact lyX3_4
  | 5, _ => exact lyX3_5
  | 6, _ => exact lyX3_6
  | 7, _ => exact lyX3_7
  | 8, _ => exact lyX3_8
  | 9, _ => exact lyX3_9
  | k + 10, h => exact absurd h (by omega)
theorem lyX4_0 : u_lay RX4 TX4 0 ∈ WW := wwOf (tb1 (List.mem_of_getElem? (i := 34) rfl)) rfl
theorem inWX4 : ∀ w ∈ u_ws RX4 TX4 1, w ∈ WW := by
  intro w h
  obtain ⟨k, hk, rfl⟩ := List.mem_map.mp h
  have hk := List.mem_range.mp hk
  match k, hk with
  | 0, _ => exact lyX4_0
  | k + 1, h => exact absurd h (by omega)
theorem lyX5_0 : u_lay RX5 TX5 0 ∈ WW := wwOf (tb1 (List.mem_of_getElem? (i := 168) rfl)) rfl
theorem lyX5_1 : u_lay RX5 TX5 1 ∈ WW := wwOf (tb1 (List.mem_of_getElem? (i := 170) rfl)) rfl
theorem lyX5_2 : u_lay RX5 TX5 2 ∈ WW := wwOf (tb1 (List.mem_of_getElem? (i := 172) rfl)) rfl
theorem lyX5_3 : u_lay RX5 TX5 3 ∈ WW := wwOf (tb1 (List.mem_of_getElem? (i := 174) rfl)) rfl
theorem lyX5_4 : u_lay RX5 TX5 4 ∈ WW := wwOf (tb1 (List.mem_of_getElem? (i := 176) rfl)) rfl
theorem lyX5_5 : u_lay RX5 TX5 5 ∈ WW := wwOf (tb1 (List.mem_of_getElem? (i := 178) rfl)) rfl
theorem lyX5_6 : u_lay RX5 TX5 6 ∈ WW := wwOf (tb1 (List.mem_of_getElem? (i := 180) rfl)) rfl
theorem lyX5_7 : u_lay RX5 TX5 7 ∈ WW := wwOf (tb1 (List.mem_of_getElem? (i := 182) rfl)) rfl
theorem lyX5_8 : u_lay RX5 TX5 8 ∈ WW := wwOf (tb1 (List.mem_of_getElem? (i := 184) rfl)) rfl
theorem lyX5_9 : u_lay RX5 TX5 9 ∈ WW := wwOf (tb1 (List.mem_of_getElem? (i := 186) rfl)) rfl
theorem lyX5_10 : u_lay RX5 TX5 10 ∈ WW := wwOf (tb1 (List.mem_of_getElem? (i := 188) rfl)) rfl
theorem inWX5 : ∀ w ∈ u_ws RX5 TX5 11, w ∈ WW := by
  intro w h
  obtain ⟨k, hk, rfl⟩ := List.mem_map.mp h
  have hk := List.mem_range.mp hk
  match k, hk with
  | 0, _ => exact lyX5_0
  | 1, _ => exact lyX5_1
  | 2, _ => exact lyX5_2
  | 3, _ => exact lyX5_3
  | 4, _ => exact lyX5_4
  | 5, _ => exact lyX5_5
  | 6, _ => exact lyX5_6
  | 7, _ => exact lyX5_7
  | 8, _ => exact lyX5_8
  | 9, _ => exact lyX5_9
  | 10, _ => exact lyX5_10
  | k + 11, h => exact absurd h (by omega)
theorem lyX6_0 : u_lay RX6 TX6 0 ∈ WW := wwOf (tb3 (List.mem_of_getElem? (i := 84) rfl)) rfl
theorem lyX6_1 : u_lay RX6 TX6 1 ∈ WW := wwOf (tb3 (List.mem_of_getElem? (i := 86) rfl)) rfl
theorem lyX6_2 : u_lay RX6 TX6 2 ∈ WW := wwOf (tb3 (List.mem_of_getElem? (i := 88) rfl)) rfl
theorem lyX6_3 : u_lay RX6 TX6 3 ∈ WW := wwOf (tb3 (List.mem_of_getElem? (i := 90) rfl)) rfl
theorem lyX6_4 : u_lay RX6 TX6 4 ∈ WW := wwOf (tb3 (List.mem_of_getElem? (i := 92) rfl)) rfl
theorem lyX6_5 : u_lay RX6 TX6 5 ∈ WW := wwOf (tb3 (List.mem_of_getElem? (i := 94) rfl)) rfl
theorem lyX6_6 : u_lay RX6 TX6 6 ∈ WW := wwOf (tb3 (List.mem_of_getElem? (i := 96) rfl)) rfl
theorem lyX6_7 : u_lay RX6 TX6 7 ∈ WW := wwOf (tb3 (List.mem_of_getElem? (i := 98) rfl)) rfl
theorem lyX6_8 : u_lay RX6 TX6 8 ∈ WW := wwOf (tb3 (List.mem_of_getElem? (i := 100) rfl)) rfl
theorem lyX6_9 : u_lay RX6 TX6 9 ∈ WW := wwOf (tb3 (List.mem_of_getElem? (i := 102) rfl)) rfl
theorem lyX6_10 : u_lay RX6 TX6 10 ∈ WW := wwOf (tb3 (List.mem_of_getElem? (i := 104) rfl)) rfl
theorem lyX6_11 : u_lay RX6 TX6 11 ∈ WW := wwOf (tb3 (List.mem_of_getElem? (i := 106) rfl)) rfl
theorem lyX6_12 : u_lay RX6 TX6 12 ∈ WW := wwOf (tb3 (List.mem_of_getElem? (i := 108) rfl)) rfl
theorem lyX6_13 : u_lay RX6 TX6 13 ∈ WW := wwOf (tb3 (List.mem_of_getElem? (i := 110) rfl)) rfl
theorem lyX6_14 : u_lay RX6 TX6 14 ∈ WW := wwOf (tb3 (List.mem_of_getElem? (i := 112) rfl)) rfl
theorem lyX6_15 : u_lay RX6 TX6 15 ∈ WW := wwOf (tb3 (List.mem_of_getElem? (i := 114) rfl)) rfl
theorem lyX6_16 : u_lay RX6 TX6 16 ∈ WW := wwOf (tb3 (List.mem_of_getElem? (i := 116) rfl)) rfl
theorem lyX6_17 : u_lay RX6 TX6 17 ∈ WW := wwOf (tb3 (List.mem_of_getElem? (i := 118) rfl)) rfl
theorem lyX6_18 : u_lay RX6 TX6 18 ∈ WW := wwOf (tb3 (List.mem_of_getElem? (i := 120) rfl)) rfl
theorem lyX6_19 : u_lay RX6 TX6 19 ∈ WW := wwOf (tb3 (List.mem_of_getElem? (i := 122) rfl)) rfl
theorem lyX6_20 : u_lay RX6 TX6 20 ∈ WW := wwOf (tb3 (List.mem_of_getElem? (i := 124) rfl)) rfl
theorem lyX6_21 : u_lay RX6 TX6 21 ∈ WW := wwOf (tb3 (List.mem_of_getElem? (i := 126) rfl)) rfl
theorem lyX6_22 : u_lay RX6 TX6 22 ∈ WW := wwOf (tb3 (List.mem_of_getElem? (i := 128) rfl)) rfl
theorem lyX6_23 : u_lay RX6 TX6 23 ∈ WW := wwOf (tb3 (List.mem_of_getElem? (i := 130) rfl)) rfl
theorem lyX6_24 : u_lay RX6 TX6 24 ∈ WW := wwOf (tb3 (List.mem_of_getElem? (i := 132) rfl)) rfl
theorem lyX6_25 : u_lay RX6 TX6 25 ∈ WW := wwOf (tb3 (List.mem_of_getElem? (i := 134) rfl)) rfl
theorem lyX6_26 : u_lay RX6 TX6 26 ∈ WW := wwOf (tb3 (List.mem_of_getElem? (i := 136) rfl)) rfl
theorem lyX6_27 : u_lay RX6 TX6 27 ∈ WW := wwOf (tb3 (List.mem_of_getElem? (i := 138) rfl)) rfl
theorem lyX6_28 : u_lay RX6 TX6 28 ∈ WW := wwOf (tb3 (List.mem_of_getElem? (i := 140) rfl)) rfl
theorem lyX6_29 : u_lay RX6 TX6 29 ∈ WW := wwOf (tb3 (List.mem_of_getElem? (i := 142) rfl)) rfl
theorem lyX6_30 : u_lay RX6 TX6 30 ∈ WW := wwOf (tb3 (List.mem_of_getElem? (i := 144) rfl)) rfl
theorem lyX6_31 : u_lay RX6 TX6 31 ∈ WW := wwOf (tb3 (List.mem_of_getElem? (i := 146) rfl)) rfl
theorem lyX6_32 : u_lay RX6 TX6 32 ∈ WW := wwOf (tb3 (List.mem_of_getElem? (i := 148) rfl)) rfl
theorem lyX6_33 : u_lay RX6 TX6 33 ∈ WW := wwOf (tb3 (List.mem_of_getElem? (i := 150) rfl)) rfl
theorem lyX6_34 : u_lay RX6 TX6 34 ∈ WW := wwOf (tb3 (List.mem_of_getElem? (i := 152) rfl)) rfl
theorem lyX6_35 : u_lay RX6 TX6 35 ∈ WW := wwOf (tb3 (List.mem_of_getElem? (i := 154) rfl)) rfl
theorem lyX6_36 : u_lay RX6 TX6 36 ∈ WW := wwOf (tb3 (List.mem_of_getElem? (i := 156) rfl)) rfl
theorem lyX6_37 : u_lay RX6 TX6 37 ∈ WW := wwOf (tb3 (List.mem_of_getElem? (i := 158) rfl)) rfl
theorem lyX6_38 : u_lay RX6 TX6 38 ∈ WW := wwOf (tb3 (List.mem_of_getElem? (i := 160) rfl)) rfl
theorem lyX6_39 : u_lay RX6 TX6 39 ∈ WW := wwOf (tb3 (List.mem_of_getElem? (i := 162) rfl)) rfl
theorem lyX6_40 : u_lay RX6 TX6 40 ∈ WW := wwOf (tb3 (List.mem_of_getElem? (i := 164) rfl)) rfl
theorem lyX6_41 : u_lay RX6 TX6 41 ∈ WW := wwOf (tb3 (List.mem_of_getElem? (i := 166) rfl)) rfl
theorem lyX6_42 : u_lay RX6 TX6 42 ∈ WW := wwOf (tb3 (List.mem_of_getElem? (i := 168) rfl)) rfl
theorem inWX6 : ∀ w ∈ u_ws RX6 TX6 43, w ∈ WW := by
  intro w h
  obtain ⟨k, hk, rfl⟩ := List.mem_map.mp h
  have hk := List.mem_range.mp hk
  match k, hk with
  | 0, _ => exact lyX6_0
  | 1, _ => exact lyX6_1
  | 2, _ => exact lyX6_2
  | 3, _ => exact lyX6_3
  | 4, _ => exact lyX6_4
  | 5, _ => exact lyX6_5
  | 6, _ => exact lyX6_6
  | 7, _ => exact lyX6_7
  | 8, _ => exact lyX6_8
  | 9, _ => exact lyX6_9
  | 10, _ => exact lyX6_10
  | 11, _ => exact lyX6_11
  | 12, _ => exact lyX6_12
  | 13, _ => exact lyX6_13
  | 14, _ => exact lyX6_14
  | 15, _ => exact lyX6_15
  | 16, _ => exact lyX6_16
  | 17, _ => exact lyX6_17
  | 18, _ => exact lyX6_18
  | 19, _ => exact lyX6_19
  | 20, _ => exact lyX6_20
  | 21, _ => exact lyX6_21
  | 22, _ => exact lyX6_22
  | 23, _ => exact lyX6_23
  | 24, _ => exact lyX6_24
  | 25, _ => exact lyX6_25
  | 26, _ => exact lyX6_26
  | 27, _ => exact lyX6_27
  | 28, _ => exact lyX6_28
  | 29, _ => exact lyX6_29
  | 30, _ => exact lyX6_30
  | 31, _ => exact lyX6_31
  | 32, _ => exact lyX6_32
  | 33, _ => exact lyX6_33
  | 34, _ => exact lyX6_34
  | 35, _ => exact lyX6_35
  | 36, _ => exact lyX6_36
  | 37, _ => exact lyX6_37
  | 38, _ => exact lyX6_38
  | 39, _ => exact lyX6_39
  | 40, _ => exact lyX6_40
  | 41, _ => exact lyX6_41
  | 42, _ => exact lyX6_42
  | k + 43, h => exact absurd h (by omega)
