set_option maxHeartbeats 4000000 in
set_option maxRecDepth 100000 in
theorem law_case0 {p : Program} {l : Launch} {e : Env} {s : State} {m : MethodId} {below : List Frame} {meth : Method} {c : Code} {b L : Nat} {xs : Nat → Int32} {dC : Nat → ClassId} {dI : Nat → Nat → Nat} {cI cZ cS cC cJ : ClassId} {a : Nat → Nat} (hx : p.tables.exec = Jvm.exec) (hb : c.code = cL_law) (hr : meth.sig.returnType = ret) (hml : c.maxLocals = 7) (hown : s.vm.findClass RL = some m.cls) (hts : ∀ w ∈ WW, w.before #[Value.ref b] s = true) (hX : va_X b L xs s s.heap) (hbl : b < s.heap.size) (hlocks : meth.locks = false) (hA : ∀ q : Nat, s.heap.size ≤ q → (fun q : Nat => s.heap.size ≤ q) q) (hbA : ¬ (fun q : Nat => s.heap.size ≤ q) b) (hK : va_K (dC, dI) vwCl [(cI, .int), (cZ, .boolean), (cS, .object RX3), (cC, .object RX0), (cJ, .long)] s) (hN : mN s) (hD : mDD a) (hAc : ∀ c, c < 81 → (fun q : Nat => s.heap.size ≤ q) (a c)) (hL5 : L ≤ 2560) {j : Nat} {k : Int32} (ek : k = nI (5 * j)) (hj : 5 * j + 5 ≤ L) {v : Nat → Nat → Int32} {H : Heap} {locs : List Loc} {ls : Array Slot} (hP : va_P (dC, dI) vwCl (mW cI cZ cS cC cJ a v) H) (hS : va_S (fun q : Nat => s.heap.size ≤ q) s.heap H locs) (hl : lv_has ls 7 [(0, .ref b), (1, .ref (a 0)), (2, .ref (a 45)), (3, .ref (a 80)), (4, .int k)]) (hI : kI v v) (hB : rB j v v) (hL : rL v) (hX9 : xR v) (hgo : ∀ (v : Nat → Nat → Int32) (H : Heap) (locs : List Loc) (ls : Array Slot), va_P (dC, dI) vwCl (mW cI cZ cS cC cJ a v) H → va_S (fun q : Nat => s.heap.size ≤ q) s.heap H locs → lv_has ls 7 [(0, .ref b), (1, .ref (a 0)), (2, .ref (a 45)), (3, .ref (a 80)), (4, .int k)] → kI v v → rB (j + 1) v v → rL v → xR v → W p l e room_1 s m #[Value.ref b] below meth c H locs (81 + (j + 1)) (10532 + 6 * (j + 1)) (lw_Z below #[Value.ref b] s) (F0 m 808 ls [])) : W p l e room_1 s m #[Value.ref b] below meth c H locs (81 + j) (10532 + 6 * j) (lw_Z below #[Value.ref b] s) (F0 m 120 ls []) := by
  refine lv_aload_n hx hb dL_law_120 rfl (lv_at hl 1 rfl) ?_
  refine lv_aload_n hx hb dL_law_121 rfl (lv_at hl 0 rfl) ?_
  refine lv_iload hx hb dL_law_122 (lv_at hl 4 rfl) ?_
  refine lv_iconst (v := 1) hx hb dL_law_124 (by decide) ?_
  refine lv_iadd hx hb dL_law_125 ?_
  refine lv_topi (fun t_1 et_1 => ?_)
  have ei_2 : t_1 = nI (5 * j + 1) := by rw [et_1, ek]; exact nI_add _ 1
  refine va_sld hx hb hX hbl hbA hS (kt_inN ei_2 (by omega) (by omega)) dL_law_126 ?_
  refine lv_topi (fun t_2 et_2 => ?_)
  rw [ei_2, nI_clamp (by omega)] at et_2
  refine lv_aload_n hx hb dL_law_127 rfl (lv_at hl 0 rfl) ?_
  refine lv_iload hx hb dL_law_128 (lv_at hl 4 rfl) ?_
  refine lv_iconst (v := 2) hx hb dL_law_130 (by decide) ?_
  refine lv_iadd hx hb dL_law_131 ?_
  refine lv_topi (fun t_3 et_3 => ?_)
  have ei_4 : t_3 = nI (5 * j + 2) := by rw [et_3, ek]; exact nI_add _ 2
  refine va_sld hx hb hX hbl hbA hS (kt_inN ei_4 (by omega) (by omega)) dL_law_132 ?_
  refine lv_topi (fun t_4 et_4 => ?_)
  rw [ei_4, nI_clamp (by omega)] at et_4
  refine lv_aload_n hx hb dL_law_133 rfl (lv_at hl 0 rfl) ?_
  refine lv_iload hx hb dL_law_134 (lv_at hl 4 rfl) ?_
  refine lv_iconst (v := 3) hx hb dL_law_136 (by decide) ?_
  refine lv_iadd hx hb dL_law_137 ?_
  refine lv_topi (fun t_5 et_5 => ?_)
  have ei_6 : t_5 = nI (5 * j + 3) := by rw [et_5, ek]; exact nI_add _ 3
  refine va_sld hx hb hX hbl hbA hS (kt_inN ei_6 (by omega) (by omega)) dL_law_138 ?_
  refine lv_topi (fun t_6 et_6 => ?_)
  rw [ei_6, nI_clamp (by omega)] at et_6
  refine lv_aload_n hx hb dL_law_139 rfl (lv_at hl 0 rfl) ?_
  refine lv_iload hx hb dL_law_140 (lv_at hl 4 rfl) ?_
  refine lv_iconst (v := 4) hx hb dL_law_142 (by decide) ?_
  refine lv_iadd hx hb dL_law_143 ?_
  refine lv_topi (fun t_7 et_7 => ?_)
  have ei_8 : t_7 = nI (5 * j + 4) := by rw [et_7, ek]; exact nI_add _ 4
  refine va_sld hx hb hX hbl hbA hS (kt_inN ei_8 (by omega) (by omega)) dL_law_144 ?_
  refine lv_topi (fun t_8 et_8 => ?_)
  rw [ei_8, nI_clamp (by omega)] at et_8
  have hFc := mA_free (a := a) hS hA hAc
  refine va_calli (va_runV (As := [.int t_2, .int t_4, .int t_6, .int t_8]) (rest := []) ⟨hx, hb, hml, hown, hts⟩ (c_X5_secret l dC dI cI cZ cS cC cJ a v H.size t_2 t_4 t_6 t_8 hD hI.self) (cwV 4 hts (gV (fun w h => h) kw_t1_191 kw_t1_192 kw_t1_193 kw_t1_1 kw_t1_194) rfl rfl rfl (by decide +kernel) ⟨Nat.le_of_ble_eq_true rfl, Nat.le_of_ble_eq_true rfl⟩) ⟨fun av U g mk q => by obtain ⟨q0, q1, qP, qK, qN⟩ := q; exact ⟨q0, q1, qP, va_K.moved (u := U) (U := U.calling g mk av) (Vm.Alike.refl U.vm) qK, mN_same qN⟩, va_recv hK hP (ci := 5) (q0 := 0) rfl at_0, fun U hU hW => ⟨rfl, by rw [hU], by rw [hU]; exact hP, va_K.moved hW.alike hK, mN_warm hW hN⟩⟩ rfl rfl hl.1 rfl (lv_room (Nat.le_of_ble_eq_true rfl)) dL_law_145 ⟨by show (81 + j) + 0 ≤ 601024; omega, by show (10532 + 6 * j) + 0 ≤ 7293034; omega⟩) hS (fun q _ h => hFc q h) hFc (fun r_9 v_9 t H locs ht hvm hw_9 hP _ _ hS => ?_)
  have hP := kt_heap2 ht hP
  clear ht hFc
  have hP : va_P (dC, dI) vwCl (mW cI cZ cS cC cJ a v_9) H := hP
  have hB := hB.kfr (fun c h9 _ => hw_9.1.fr c h9)
  have hL := hL.kfr (fun c h9 _ => hw_9.1.fr c h9)
  have hI := hw_9.1.self
  refine lv_pop hx hb dL_law_148 rfl ?_
  refine lv_aload_n hx hb dL_law_149 rfl (lv_at hl 2 rfl) ?_
  refine lv_aload_n hx hb dL_law_150 rfl (lv_at hl 0 rfl) ?_
  refine lv_iload hx hb dL_law_151 (lv_at hl 4 rfl) ?_
  refine lv_iconst (v := 1) hx hb dL_law_153 (by decide) ?_
  refine lv_iadd hx hb dL_law_154 ?_
  refine lv_topi (fun t_10 et_10 => ?_)
  have ei_11 : t_10 = nI (5 * j + 1) := by rw [et_10, ek]; exact nI_add _ 1
  refine va_sld hx hb hX hbl hbA hS (kt_inN ei_11 (by omega) (by omega)) dL_law_155 ?_
  refine lv_topi (fun t_11 et_11 => ?_)
  rw [ei_11, nI_clamp (by omega)] at et_11
  obtain rfl : t_2 = t_11 := et_2.trans et_11.symm
  refine lv_aload_n hx hb dL_law_156 rfl (lv_at hl 0 rfl) ?_
  refine lv_iload hx hb dL_law_157 (lv_at hl 4 rfl) ?_
  refine lv_iconst (v := 2) hx hb dL_law_159 (by decide) ?_
  refine lv_iadd hx hb dL_law_160 ?_
  refine lv_topi (fun t_12 et_12 => ?_)
  have ei_13 : t_12 = nI (5 * j + 2) := by rw [et_12, ek]; exact nI_add _ 2
  refine va_sld hx hb hX hbl hbA hS (kt_inN ei_13 (by omega) (by omega)) dL_law_161 ?_
  refine lv_topi (fun t_13 et_13 => ?_)
  rw [ei_13, nI_clamp (by omega)] at et_13
  obtain rfl : t_4 = t_13 := et_4.trans et_13.symm
  refine lv_aload_n hx hb dL_law_162 rfl (lv_at hl 0 rfl) ?_
  refine lv_iload hx hb dL_law_163 (lv_at hl 4 rfl) ?_
  refine lv_iconst (v := 3) hx hb dL_law_165 (by decide) ?_
  refine lv_iadd hx hb dL_law_166 ?_
  refine lv_topi (fun t_14 et_14 => ?_)
  have ei_15 : t_14 = nI (5 * j + 3) := by rw [et_14, ek]; exact nI_add _ 3
  refine va_sld hx hb hX hbl hbA hS (kt_inN ei_15 (by omega) (by omega)) dL_law_167 ?_
  refine lv_topi (fun t_15 et_15 => ?_)
  rw [ei_15, nI_clamp (by omega)] at et_15
  obtain rfl : t_6 = t_15 := et_6.trans et_15.symm
  refine lv_aload_n hx hb dL_law_168 rfl (lv_at hl 0 rfl) ?_
  refine lv_iload hx hb dL_law_169 (lv_at hl 4 rfl) ?_
  refine lv_iconst (v := 4) hx hb dL_law_171 (by decide) ?_
  refine lv_iadd hx hb dL_law_172 ?_
  refine lv_topi (fun t_16 et_16 => ?_)
  have ei_17 : t_16 = nI (5 * j + 4) := by rw [et_16, ek]; exact nI_add _ 4
  refine va_sld hx hb hX hbl hbA hS (kt_inN ei_17 (by omega) (by omega)) dL_law_173 ?_
  refine lv_topi (fun t_17 et_17 => ?_)
  rw [ei_17, nI_clamp (by omega)] at et_17
  obtain rfl : t_8 = t_17 := et_8.trans et_17.symm
  have hFc := mA_free (a := a) hS hA hAc
  refine va_calli (va_runV (As := [.int t_2, .int t_4, .int t_6, .int t_8]) (rest := []) ⟨hx, hb, hml, hown, hts⟩ (c_X6_secret l dC dI cI cZ cS cC cJ a v_9 H.size t_2 t_4 t_6 t_8 hD j (by omega) hB.self hL) (cwV 4 hts (gV (fun w h => h) kw_t3_172 kw_t3_173 kw_t3_174 kw_t1_7 kw_t3_175) rfl rfl rfl (by decide +kernel) ⟨Nat.le_of_ble_eq_true rfl, Nat.le_of_ble_eq_true rfl⟩) ⟨fun av U g mk q => by obtain ⟨q0, q1, qP, qK, qN⟩ := q; exact ⟨q0, q1, qP, va_K.moved (u := U) (U := U.calling g mk av) (Vm.Alike.refl U.vm) qK, mN_same qN⟩, va_recv hK hP (ci := 6) (q0 := 45) rfl at_45, fun U hU hW => ⟨rfl, by rw [hU], by rw [hU]; exact hP, va_K.moved hW.alike hK, mN_warm hW hN⟩⟩ rfl rfl hl.1 rfl (lv_room (Nat.le_of_ble_eq_true rfl)) dL_law_174 ⟨by show (81 + j) + 0 ≤ 601024; omega, by show (10532 + 6 * j) + 0 ≤ 7293034; omega⟩) hS (fun q _ h => hFc q h) hFc (fun r_18 v_18 t H locs ht hvm hw_18 hP _ _ hS => ?_)
  have hP := kt_heap2 ht hP
  clear ht hFc
  have hP : va_P (dC, dI) vwCl (mW cI cZ cS cC cJ a v_18) H := hP
  have hres9 := xR.secretE hX9 hw_9.1 hw_9.2 hw_18.2.2
  have hX9 : xR v_18 := xR.secret hX9 hw_9.1 hw_18.1 hw_9.2 hw_18.2.2
  have hI := hI.rfr hw_18.1.fr
  have hB := hw_18.1.self
  have hL := hw_18.2.1
  refine lv_pop hx hb dL_law_177 rfl ?_
  refine lv_goto (tgt := 808) hx hb dL_law_178 (by decide) ?_
  refine W.widen (k := 81 + (j + 1)) (n := 10532 + 6 * (j + 1)) (by omega) (by omega) ?_
  exact hgo v_18 _ _ _ hP hS (lv_sub hl [0, 1, 2, 3, 4] rfl) hI (hB.up (by omega)) hL hX9

set_option maxHeartbeats 4000000 in
set_option maxRecDepth 100000 in
theorem law_case1 {p : Program} {l : Launch} {e : Env} {s : State} {m : MethodId} {below : List Frame} {meth : Method} {c : Code} {b L : Nat} {xs : Nat → Int32} {dC : Nat → ClassId} {dI : Nat → Nat → Nat} {cI cZ cS cC cJ : ClassId} {a : Nat → Nat} (hx : p.tables.exec = Jvm.exec) (hb : c.code = cL_law) (hr : meth.sig.returnType = ret) (hml : c.maxLocals = 7) (hown : s.vm.findClass RL = some m.cls) (hts : ∀ w ∈ WW, w.before #[Value.ref b] s = true) (hX : va_X b L xs s s.heap) (hbl : b < s.heap.size) (hlocks : meth.locks = false) (hA : ∀ q : Nat, s.heap.size ≤ q → (fun q : Nat => s.heap.size ≤ q) q) (hbA : ¬ (fun q : Nat => s.heap.size ≤ q) b) (hK : va_K (dC, dI) vwCl [(cI, .int), (cZ, .boolean), (cS, .object RX3), (cC, .object RX0), (cJ, .long)] s) (hN : mN s) (hD : mDD a) (hAc : ∀ c, c < 81 → (fun q : Nat => s.heap.size ≤ q) (a c)) (hL5 : L ≤ 2560) {j : Nat} {k : Int32} (ek : k = nI (5 * j)) (hj : 5 * j + 5 ≤ L) {v : Nat → Nat → Int32} {H : Heap} {locs : List Loc} {ls : Array Slot} (hP : va_P (dC, dI) vwCl (mW cI cZ cS cC cJ a v) H) (hS : va_S (fun q : Nat => s.heap.size ≤ q) s.heap H locs) (hl : lv_has ls 7 [(0, .ref b), (1, .ref (a 0)), (2, .ref (a 45)), (3, .ref (a 80)), (4, .int k)]) (hI : kI v v) (hB : rB j v v) (hL : rL v) (hX9 : xR v) (hgo : ∀ (v : Nat → Nat → Int32) (H : Heap) (locs : List Loc) (ls : Array Slot), va_P (dC, dI) vwCl (mW cI cZ cS cC cJ a v) H → va_S (fun q : Nat => s.heap.size ≤ q) s.heap H locs → lv_has ls 7 [(0, .ref b), (1, .ref (a 0)), (2, .ref (a 45)), (3, .ref (a 80)), (4, .int k)] → kI v v → rB (j + 1) v v → rL v → xR v → W p l e room_1 s m #[Value.ref b] below meth c H locs (81 + (j + 1)) (10532 + 6 * (j + 1)) (lw_Z below #[Value.ref b] s) (F0 m 808 ls [])) : W p l e room_1 s m #[Value.ref b] below meth c H locs (81 + j) (10532 + 6 * j) (lw_Z below #[Value.ref b] s) (F0 m 181 ls []) := by
  refine lv_aload_n hx hb dL_law_181 rfl (lv_at hl 1 rfl) ?_
  refine lv_aload_n hx hb dL_law_182 rfl (lv_at hl 0 rfl) ?_
  refine lv_iload hx hb dL_law_183 (lv_at hl 4 rfl) ?_
  refine lv_iconst (v := 1) hx hb dL_law_185 (by decide) ?_
  refine lv_iadd hx hb dL_law_186 ?_
  refine lv_topi (fun t_1 et_1 => ?_)
  have ei_2 : t_1 = nI (5 * j + 1) := by rw [et_1, ek]; exact nI_add _ 1
  refine va_sld hx hb hX hbl hbA hS (kt_inN ei_2 (by omega) (by omega)) dL_law_187 ?_
  refine lv_topi (fun t_2 et_2 => ?_)
  rw [ei_2, nI_clamp (by omega)] at et_2
  refine lv_aload_n hx hb dL_law_188 rfl (lv_at hl 0 rfl) ?_
  refine lv_iload hx hb dL_law_189 (lv_at hl 4 rfl) ?_
  refine lv_iconst (v := 2) hx hb dL_law_191 (by decide) ?_
  refine lv_iadd hx hb dL_law_192 ?_
  refine lv_topi (fun t_3 et_3 => ?_)
  have ei_4 : t_3 = nI (5 * j + 2) := by rw [et_3, ek]; exact nI_add _ 2
  refine va_sld hx hb hX hbl hbA hS (kt_inN ei_4 (by omega) (by omega)) dL_law_193 ?_
  refine lv_topi (fun t_4 et_4 => ?_)
  rw [ei_4, nI_clamp (by omega)] at et_4
  refine lv_aload_n hx hb dL_law_194 rfl (lv_at hl 0 rfl) ?_
  refine lv_iload hx hb dL_law_195 (lv_at hl 4 rfl) ?_
  refine lv_iconst (v := 3) hx hb dL_law_197 (by decide) ?_
  refine lv_iadd hx hb dL_law_198 ?_
  refine lv_topi (fun t_5 et_5 => ?_)
  have ei_6 : t_5 = nI (5 * j + 3) := by rw [et_5, ek]; exact nI_add _ 3
  refine va_sld hx hb hX hbl hbA hS (kt_inN ei_6 (by omega) (by omega)) dL_law_199 ?_
  refine lv_topi (fun t_6 et_6 => ?_)
  rw [ei_6, nI_clamp (by omega)] at et_6
  refine lv_if_eq (tgt := 207) hx hb dL_law_200 (by decide) (fun c_7 => ?_) (fun c_7 => ?_)
  · refine lv_iconst (v := 0) hx hb dL_law_207 (by decide) ?_
    have hFc := mA_free (a := a) hS hA hAc
    refine va_calli (va_runV (As := [.int t_2, .int t_4, .int 0]) (rest := []) ⟨hx, hb, hml, hown, hts⟩ (c_X5_needs l dC dI cI cZ cS cC cJ a v H.size t_2 t_4 0 hD hI.self (Or.inl rfl)) (cwV 3 hts (gV (fun w h => h) kw_t1_199 kw_t1_200 kw_t1_201 kw_t1_1 kw_t1_202) rfl rfl rfl (by decide +kernel) ⟨Nat.le_of_ble_eq_true rfl, Nat.le_of_ble_eq_true rfl⟩) ⟨fun av U g mk q => by obtain ⟨q0, q1, qP, qK, qN⟩ := q; exact ⟨q0, q1, qP, va_K.moved (u := U) (U := U.calling g mk av) (Vm.Alike.refl U.vm) qK, mN_same qN⟩, va_recv hK hP (ci := 5) (q0 := 0) rfl at_0, fun U hU hW => ⟨rfl, by rw [hU], by rw [hU]; exact hP, va_K.moved hW.alike hK, mN_warm hW hN⟩⟩ rfl rfl hl.1 rfl (lv_room (Nat.le_of_ble_eq_true rfl)) dL_law_208 ⟨by show (81 + j) + 0 ≤ 601024; omega, by show (10532 + 6 * j) + 0 ≤ 7293034; omega⟩) hS (fun q _ h => hFc q h) hFc (fun r_8 v_8 t H locs ht hvm hw_8 hP _ _ hS => ?_)
    have hP := kt_heap2 ht hP
    clear ht hFc
    have hP : va_P (dC, dI) vwCl (mW cI cZ cS cC cJ a v_8) H := hP
    have hB := hB.kfr (fun c h9 _ => hw_8.1.fr c h9)
    have hL := hL.kfr (fun c h9 _ => hw_8.1.fr c h9)
    have hI := hw_8.1.self
    refine lv_aload_n hx hb dL_law_211 rfl (lv_at hl 2 rfl) ?_
    refine lv_aload_n hx hb dL_law_212 rfl (lv_at hl 0 rfl) ?_
    refine lv_iload hx hb dL_law_213 (lv_at hl 4 rfl) ?_
    refine lv_iconst (v := 1) hx hb dL_law_215 (by decide) ?_
    refine lv_iadd hx hb dL_law_216 ?_
    refine lv_topi (fun t_9 et_9 => ?_)
    have ei_10 : t_9 = nI (5 * j + 1) := by rw [et_9, ek]; exact nI_add _ 1
    refine va_sld hx hb hX hbl hbA hS (kt_inN ei_10 (by omega) (by omega)) dL_law_217 ?_
    refine lv_topi (fun t_10 et_10 => ?_)
    rw [ei_10, nI_clamp (by omega)] at et_10
    obtain rfl : t_2 = t_10 := et_2.trans et_10.symm
    refine lv_aload_n hx hb dL_law_218 rfl (lv_at hl 0 rfl) ?_
    refine lv_iload hx hb dL_law_219 (lv_at hl 4 rfl) ?_
    refine lv_iconst (v := 2) hx hb dL_law_221 (by decide) ?_
    refine lv_iadd hx hb dL_law_222 ?_
    refine lv_topi (fun t_11 et_11 => ?_)
    have ei_12 : t_11 = nI (5 * j + 2) := by rw [et_11, ek]; exact nI_add _ 2
    refine va_sld hx hb hX hbl hbA hS (kt_inN ei_12 (by omega) (by omega)) dL_law_223 ?_
    refine lv_topi (fun t_12 et_12 => ?_)
    rw [ei_12, nI_clamp (by omega)] at et_12
    obtain rfl : t_4 = t_12 := et_4.trans et_12.symm
    refine lv_aload_n hx hb dL_law_224 rfl (lv_at hl 0 rfl) ?_
    refine lv_iload hx hb dL_law_225 (lv_at hl 4 rfl) ?_
    refine lv_iconst (v := 3) hx hb dL_law_227 (by decide) ?_
    refine lv_iadd hx hb dL_law_228 ?_
    refine lv_topi (fun t_13 et_13 => ?_)
    have ei_14 : t_13 = nI (5 * j + 3) := by rw [et_13, ek]; exact nI_add _ 3
    refine va_sld hx hb hX hbl hbA hS (kt_inN ei_14 (by omega) (by omega)) dL_law_229 ?_
    refine lv_topi (fun t_14 et_14 => ?_)
    rw [ei_14, nI_clamp (by omega)] at et_14
    obtain rfl : t_6 = t_14 := et_6.trans et_14.symm
    refine lv_if_eq (tgt := 237) hx hb dL_law_230 (by decide) (fun c_15 => ?_) (fun c_15 => absurd c_7 c_15)
    refine lv_iconst (v := 0) hx hb dL_law_237 (by decide) ?_
    have hFc := mA_free (a := a) hS hA hAc
    refine va_calli (va_runV (As := [.int t_2, .int t_4, .int 0]) (rest := [.int r_8]) ⟨hx, hb, hml, hown, hts⟩ (c_X6_needs l dC dI cI cZ cS cC cJ a v_8 H.size t_2 t_4 0 hD j (by omega) hB.self hL) (cwV 3 hts (gV (fun w h => h) kw_t3_179 kw_t3_180 kw_t3_181 kw_t1_7 kw_t3_182) rfl rfl rfl (by decide +kernel) ⟨Nat.le_of_ble_eq_true rfl, Nat.le_of_ble_eq_true rfl⟩) ⟨fun av U g mk q => by obtain ⟨q0, q1, qP, qK, qN⟩ := q; exact ⟨q0, q1, qP, va_K.moved (u := U) (U := U.calling g mk av) (Vm.Alike.refl U.vm) qK, mN_same qN⟩, va_recv hK hP (ci := 6) (q0 := 45) rfl at_45, fun U hU hW => ⟨rfl, by rw [hU], by rw [hU]; exact hP, va_K.moved hW.alike hK, mN_warm hW hN⟩⟩ rfl rfl hl.1 rfl (lv_room (Nat.le_of_ble_eq_true rfl)) dL_law_238 ⟨by show (81 + j) + 0 ≤ 601024; omega, by show (10532 + 6 * j) + 0 ≤ 7293034; omega⟩) hS (fun q _ h => hFc q h) hFc (fun r_16 v_16 t H locs ht hvm hw_16 hP _ _ hS => ?_)
    have hP := kt_heap2 ht hP
    clear ht hFc
    have hP : va_P (dC, dI) vwCl (mW cI cZ cS cC cJ a v_16) H := hP
    have hres9 := xR.needsE hX9 hw_8.1 hw_8.2 hw_16.2.2 (Or.inl rfl)
    have hX9 : xR v_16 := xR.needs hX9 hw_8.1 hw_16.1 hw_8.2 hw_16.2.2 (Or.inl rfl)
    have hI := hI.rfr hw_16.1.fr
    have hB := hw_16.1.self
    have hL := hw_16.2.1
    refine lv_icmp_eq (tgt := 808) hx hb dL_law_241 (by decide) (fun c_17 => ?_) (fun c_17 => absurd hres9 c_17)
    refine W.widen (k := 81 + (j + 1)) (n := 10532 + 6 * (j + 1)) (by omega) (by omega) ?_
    exact hgo v_16 _ _ _ hP hS (lv_sub hl [0, 1, 2, 3, 4] rfl) hI (hB.up (by omega)) hL hX9
  · refine lv_iconst (v := 1) hx hb dL_law_203 (by decide) ?_
    refine lv_goto (tgt := 208) hx hb dL_law_204 (by decide) ?_
    have hFc := mA_free (a := a) hS hA hAc
    refine va_calli (va_runV (As := [.int t_2, .int t_4, .int 1]) (rest := []) ⟨hx, hb, hml, hown, hts⟩ (c_X5_needs l dC dI cI cZ cS cC cJ a v H.size t_2 t_4 1 hD hI.self (Or.inr rfl)) (cwV 3 hts (gV (fun w h => h) kw_t1_199 kw_t1_200 kw_t1_201 kw_t1_1 kw_t1_202) rfl rfl rfl (by decide +kernel) ⟨Nat.le_of_ble_eq_true rfl, Nat.le_of_ble_eq_true rfl⟩) ⟨fun av U g mk q => by obtain ⟨q0, q1, qP, qK, qN⟩ := q; exact ⟨q0, q1, qP, va_K.moved (u := U) (U := U.calling g mk av) (Vm.Alike.refl U.vm) qK, mN_same qN⟩, va_recv hK hP (ci := 5) (q0 := 0) rfl at_0, fun U hU hW => ⟨rfl, by rw [hU], by rw [hU]; exact hP, va_K.moved hW.alike hK, mN_warm hW hN⟩⟩ rfl rfl hl.1 rfl (lv_room (Nat.le_of_ble_eq_true rfl)) dL_law_208 ⟨by show (81 + j) + 0 ≤ 601024; omega, by show (10532 + 6 * j) + 0 ≤ 7293034; omega⟩) hS (fun q _ h => hFc q h) hFc (fun r_18 v_18 t H locs ht hvm hw_18 hP _ _ hS => ?_)
    have hP := kt_heap2 ht hP
    clear ht hFc
    have hP : va_P (dC, dI) vwCl (mW cI cZ cS cC cJ a v_18) H := hP
    have hB := hB.kfr (fun c h9 _ => hw_18.1.fr c h9)
    have hL := hL.kfr (fun c h9 _ => hw_18.1.fr c h9)
    have hI := hw_18.1.self
    refine lv_aload_n hx hb dL_law_211 rfl (lv_at hl 2 rfl) ?_
    refine lv_aload_n hx hb dL_law_212 rfl (lv_at hl 0 rfl) ?_
    refine lv_iload hx hb dL_law_213 (lv_at hl 4 rfl) ?_
    refine lv_iconst (v := 1) hx hb dL_law_215 (by decide) ?_
    refine lv_iadd hx hb dL_law_216 ?_
    refine lv_topi (fun t_19 et_19 => ?_)
    have ei_20 : t_19 = nI (5 * j + 1) := by rw [et_19, ek]; exact nI_add _ 1
    refine va_sld hx hb hX hbl hbA hS (kt_inN ei_20 (by omega) (by omega)) dL_law_217 ?_
    refine lv_topi (fun t_20 et_20 => ?_)
    rw [ei_20, nI_clamp (by omega)] at et_20
    obtain rfl : t_2 = t_20 := et_2.trans et_20.symm
    refine lv_aload_n hx hb dL_law_218 rfl (lv_at hl 0 rfl) ?_
    refine lv_iload hx hb dL_law_219 (lv_at hl 4 rfl) ?_
    refine lv_iconst (v := 2) hx hb dL_law_221 (by decide) ?_
    refine lv_iadd hx hb dL_law_222 ?_
    refine lv_topi (fun t_21 et_21 => ?_)
    have ei_22 : t_21 = nI (5 * j + 2) := by rw [et_21, ek]; exact nI_add _ 2
    refine va_sld hx hb hX hbl hbA hS (kt_inN ei_22 (by omega) (by omega)) dL_law_223 ?_
    refine lv_topi (fun t_22 et_22 => ?_)
    rw [ei_22, nI_clamp (by omega)] at et_22
    obtain rfl : t_4 = t_22 := et_4.trans et_22.symm
    refine lv_aload_n hx hb dL_law_224 rfl (lv_at hl 0 rfl) ?_
    refine lv_iload hx hb dL_law_225 (lv_at hl 4 rfl) ?_
    refine lv_iconst (v := 3) hx hb dL_law_227 (by decide) ?_
    refine lv_iadd hx hb dL_law_228 ?_
    refine lv_topi (fun t_23 et_23 => ?_)
    have ei_24 : t_23 = nI (5 * j + 3) := by rw [et_23, ek]; exact nI_add _ 3
    refine va_sld hx hb hX hbl hbA hS (kt_inN ei_24 (by omega) (by omega)) dL_law_229 ?_
    refine lv_topi (fun t_24 et_24 => ?_)
    rw [ei_24, nI_clamp (by omega)] at et_24
    obtain rfl : t_6 = t_24 := et_6.trans et_24.symm
    refine lv_if_eq (tgt := 237) hx hb dL_law_230 (by decide) (fun c_25 => absurd c_25 c_7) (fun c_25 => ?_)
    refine lv_iconst (v := 1) hx hb dL_law_233 (by decide) ?_
    refine lv_goto (tgt := 238) hx hb dL_law_234 (by decide) ?_
    have hFc := mA_free (a := a) hS hA hAc
    refine va_calli (va_runV (As := [.int t_2, .int t_4, .int 1]) (rest := [.int r_18]) ⟨hx, hb, hml, hown, hts⟩ (c_X6_needs l dC dI cI cZ cS cC cJ a v_18 H.size t_2 t_4 1 hD j (by omega) hB.self hL) (cwV 3 hts (gV (fun w h => h) kw_t3_179 kw_t3_180 kw_t3_181 kw_t1_7 kw_t3_182) rfl rfl rfl (by decide +kernel) ⟨Nat.le_of_ble_eq_true rfl, Nat.le_of_ble_eq_true rfl⟩) ⟨fun av U g mk q => by obtain ⟨q0, q1, qP, qK, qN⟩ := q; exact ⟨q0, q1, qP, va_K.moved (u := U) (U := U.calling g mk av) (Vm.Alike.refl U.vm) qK, mN_same qN⟩, va_recv hK hP (ci := 6) (q0 := 45) rfl at_45, fun U hU hW => ⟨rfl, by rw [hU], by rw [hU]; exact hP, va_K.moved hW.alike hK, mN_warm hW hN⟩⟩ rfl rfl hl.1 rfl (lv_room (Nat.le_of_ble_eq_true rfl)) dL_law_238 ⟨by show (81 + j) + 0 ≤ 601024; omega, by show (10532 + 6 * j) + 0 ≤ 7293034; omega⟩) hS (fun q _ h => hFc q h) hFc (fun r_26 v_26 t H locs ht hvm hw_26 hP _ _ hS => ?_)
    have hP := kt_heap2 ht hP
    clear ht hFc
    have hP : va_P (dC, dI) vwCl (mW cI cZ cS cC cJ a v_26) H := hP
    have hres9 := xR.needsE hX9 hw_18.1 hw_18.2 hw_26.2.2 (Or.inr rfl)
    have hX9 : xR v_26 := xR.needs hX9 hw_18.1 hw_26.1 hw_18.2 hw_26.2.2 (Or.inr rfl)
    have hI := hI.rfr hw_26.1.fr
    have hB := hw_26.1.self
    have hL := hw_26.2.1
    refine lv_icmp_eq (tgt := 808) hx hb dL_law_241 (by decide) (fun c_27 => ?_) (fun c_27 => absurd hres9 c_27)
    refine W.widen (k := 81 + (j + 1)) (n := 10532 + 6 * (j + 1)) (by omega) (by omega) ?_
    exact hgo v_26 _ _ _ hP hS (lv_sub hl [0, 1, 2, 3, 4] rfl) hI (hB.up (by omega)) hL hX9

set_option maxHeartbeats 4000000 in
set_option maxRecDepth 100000 in
theorem law_case2 {p : Program} {l : Launch} {e : Env} {s : State} {m : MethodId} {below : List Frame} {meth : Method} {c : Code} {b L : Nat} {xs : Nat → Int32} {dC : Nat → ClassId} {dI : Nat → Nat → Nat} {cI cZ cS cC cJ : ClassId} {a : Nat → Nat} (hx : p.tables.exec = Jvm.exec) (hb : c.code = cL_law) (hr : meth.sig.returnType = ret) (hml : c.maxLocals = 7) (hown : s.vm.findClass RL = some m.cls) (hts : ∀ w ∈ WW, w.before #[Value.ref b] s = true) (hX : va_X b L xs s s.heap) (hbl : b < s.heap.size) (hlocks : meth.locks = false) (hA : ∀ q : Nat, s.heap.size ≤ q → (fun q : Nat => s.heap.size ≤ q) q) (hbA : ¬ (fun q : Nat => s.heap.size ≤ q) b) (hK : va_K (dC, dI) vwCl [(cI, .int), (cZ, .boolean), (cS, .object RX3), (cC, .object RX0), (cJ, .long)] s) (hN : mN s) (hD : mDD a) (hAc : ∀ c, c < 81 → (fun q : Nat => s.heap.size ≤ q) (a c)) (hL5 : L ≤ 2560) {j : Nat} {k : Int32} (ek : k = nI (5 * j)) (hj : 5 * j + 5 ≤ L) {v : Nat → Nat → Int32} {H : Heap} {locs : List Loc} {ls : Array Slot} (hP : va_P (dC, dI) vwCl (mW cI cZ cS cC cJ a v) H) (hS : va_S (fun q : Nat => s.heap.size ≤ q) s.heap H locs) (hl : lv_has ls 7 [(0, .ref b), (1, .ref (a 0)), (2, .ref (a 45)), (3, .ref (a 80)), (4, .int k)]) (hI : kI v v) (hB : rB j v v) (hL : rL v) (hX9 : xR v) (hgo : ∀ (v : Nat → Nat → Int32) (H : Heap) (locs : List Loc) (ls : Array Slot), va_P (dC, dI) vwCl (mW cI cZ cS cC cJ a v) H → va_S (fun q : Nat => s.heap.size ≤ q) s.heap H locs → lv_has ls 7 [(0, .ref b), (1, .ref (a 0)), (2, .ref (a 45)), (3, .ref (a 80)), (4, .int k)] → kI v v → rB (j + 1) v v → rL v → xR v → W p l e room_1 s m #[Value.ref b] below meth c H locs (81 + (j + 1)) (10532 + 6 * (j + 1)) (lw_Z below #[Value.ref b] s) (F0 m 808 ls [])) : W p l e room_1 s m #[Value.ref b] below meth c H locs (81 + j) (10532 + 6 * j) (lw_Z below #[Value.ref b] s) (F0 m 246 ls []) := by
  refine lv_aload_n hx hb dL_law_246 rfl (lv_at hl 1 rfl) ?_
  refine lv_aload_n hx hb dL_law_247 rfl (lv_at hl 0 rfl) ?_
  refine lv_iload hx hb dL_law_248 (lv_at hl 4 rfl) ?_
  refine lv_iconst (v := 1) hx hb dL_law_250 (by decide) ?_
  refine lv_iadd hx hb dL_law_251 ?_
  refine lv_topi (fun t_1 et_1 => ?_)
  have ei_2 : t_1 = nI (5 * j + 1) := by rw [et_1, ek]; exact nI_add _ 1
  refine va_sld hx hb hX hbl hbA hS (kt_inN ei_2 (by omega) (by omega)) dL_law_252 ?_
  refine lv_topi (fun t_2 et_2 => ?_)
  rw [ei_2, nI_clamp (by omega)] at et_2
  refine lv_aload_n hx hb dL_law_253 rfl (lv_at hl 0 rfl) ?_
  refine lv_iload hx hb dL_law_254 (lv_at hl 4 rfl) ?_
  refine lv_iconst (v := 2) hx hb dL_law_256 (by decide) ?_
  refine lv_iadd hx hb dL_law_257 ?_
  refine lv_topi (fun t_3 et_3 => ?_)
  have ei_4 : t_3 = nI (5 * j + 2) := by rw [et_3, ek]; exact nI_add _ 2
  refine va_sld hx hb hX hbl hbA hS (kt_inN ei_4 (by omega) (by omega)) dL_law_258 ?_
  refine lv_topi (fun t_4 et_4 => ?_)
  rw [ei_4, nI_clamp (by omega)] at et_4
  have hFc := mA_free (a := a) hS hA hAc
  refine va_calli (va_runV (As := [.int t_2, .int t_4]) (rest := []) ⟨hx, hb, hml, hown, hts⟩ (c_X5_delay l dC dI cI cZ cS cC cJ a v H.size t_2 t_4 hD hI.self) (cwV 2 hts (gV (fun w h => h) kw_t1_222 kw_t1_223 kw_t1_224 kw_t1_1 kw_t1_225) rfl rfl rfl (by decide +kernel) ⟨Nat.le_of_ble_eq_true rfl, Nat.le_of_ble_eq_true rfl⟩) ⟨fun av U g mk q => by obtain ⟨q0, q1, qP, qK, qN⟩ := q; exact ⟨q0, q1, qP, va_K.moved (u := U) (U := U.calling g mk av) (Vm.Alike.refl U.vm) qK, mN_same qN⟩, va_recv hK hP (ci := 5) (q0 := 0) rfl at_0, fun U hU hW => ⟨rfl, by rw [hU], by rw [hU]; exact hP, va_K.moved hW.alike hK, mN_warm hW hN⟩⟩ rfl rfl hl.1 rfl (lv_room (Nat.le_of_ble_eq_true rfl)) dL_law_259 ⟨by show (81 + j) + 0 ≤ 601024; omega, by show (10532 + 6 * j) + 0 ≤ 7293034; omega⟩) hS (fun q _ h => hFc q h) hFc (fun r_5 v_5 t H locs ht hvm hw_5 hP _ _ hS => ?_)
  have hP := kt_heap2 ht hP
  clear ht hFc
  have hP : va_P (dC, dI) vwCl (mW cI cZ cS cC cJ a v_5) H := hP
  have hB := hB.kfr (fun c h9 _ => hw_5.1.fr c h9)
  have hL := hL.kfr (fun c h9 _ => hw_5.1.fr c h9)
  have hX9 := hX9.k hw_5.1
  have hI := hw_5.1.self
  refine lv_pop hx hb dL_law_262 rfl ?_
  refine lv_aload_n hx hb dL_law_263 rfl (lv_at hl 2 rfl) ?_
  refine lv_aload_n hx hb dL_law_264 rfl (lv_at hl 0 rfl) ?_
  refine lv_iload hx hb dL_law_265 (lv_at hl 4 rfl) ?_
  refine lv_iconst (v := 1) hx hb dL_law_267 (by decide) ?_
  refine lv_iadd hx hb dL_law_268 ?_
  refine lv_topi (fun t_6 et_6 => ?_)
  have ei_7 : t_6 = nI (5 * j + 1) := by rw [et_6, ek]; exact nI_add _ 1
  refine va_sld hx hb hX hbl hbA hS (kt_inN ei_7 (by omega) (by omega)) dL_law_269 ?_
  refine lv_topi (fun t_7 et_7 => ?_)
  rw [ei_7, nI_clamp (by omega)] at et_7
  obtain rfl : t_2 = t_7 := et_2.trans et_7.symm
  refine lv_aload_n hx hb dL_law_270 rfl (lv_at hl 0 rfl) ?_
  refine lv_iload hx hb dL_law_271 (lv_at hl 4 rfl) ?_
  refine lv_iconst (v := 2) hx hb dL_law_273 (by decide) ?_
  refine lv_iadd hx hb dL_law_274 ?_
  refine lv_topi (fun t_8 et_8 => ?_)
  have ei_9 : t_8 = nI (5 * j + 2) := by rw [et_8, ek]; exact nI_add _ 2
  refine va_sld hx hb hX hbl hbA hS (kt_inN ei_9 (by omega) (by omega)) dL_law_275 ?_
  refine lv_topi (fun t_9 et_9 => ?_)
  rw [ei_9, nI_clamp (by omega)] at et_9
  obtain rfl : t_4 = t_9 := et_4.trans et_9.symm
  have hFc := mA_free (a := a) hS hA hAc
  refine va_calli (va_runV (As := [.int t_2, .int t_4]) (rest := []) ⟨hx, hb, hml, hown, hts⟩ (c_X6_delay l dC dI cI cZ cS cC cJ a v_5 H.size t_2 t_4 hD j (by omega) hB.self hL) (cwV 2 hts (gV (fun w h => h) kw_t3_199 kw_t3_200 kw_t3_201 kw_t1_7 kw_t3_202) rfl rfl rfl (by decide +kernel) ⟨Nat.le_of_ble_eq_true rfl, Nat.le_of_ble_eq_true rfl⟩) ⟨fun av U g mk q => by obtain ⟨q0, q1, qP, qK, qN⟩ := q; exact ⟨q0, q1, qP, va_K.moved (u := U) (U := U.calling g mk av) (Vm.Alike.refl U.vm) qK, mN_same qN⟩, va_recv hK hP (ci := 6) (q0 := 45) rfl at_45, fun U hU hW => ⟨rfl, by rw [hU], by rw [hU]; exact hP, va_K.moved hW.alike hK, mN_warm hW hN⟩⟩ rfl rfl hl.1 rfl (lv_room (Nat.le_of_ble_eq_true rfl)) dL_law_276 ⟨by show (81 + j) + 0 ≤ 601024; omega, by show (10532 + 6 * j) + 0 ≤ 7293034; omega⟩) hS (fun q _ h => hFc q h) hFc (fun r_10 v_10 t H locs ht hvm hw_10 hP _ _ hS => ?_)
  have hP := kt_heap2 ht hP
  clear ht hFc
  have hP : va_P (dC, dI) vwCl (mW cI cZ cS cC cJ a v_10) H := hP
  have hX9 := hX9.r hw_10.1
  have hI := hI.rfr hw_10.1.fr
  have hB := hw_10.1.self
  have hL := hw_10.2.1
  refine lv_pop hx hb dL_law_279 rfl ?_
  refine lv_goto (tgt := 808) hx hb dL_law_280 (by decide) ?_
  refine W.widen (k := 81 + (j + 1)) (n := 10532 + 6 * (j + 1)) (by omega) (by omega) ?_
  exact hgo v_10 _ _ _ hP hS (lv_sub hl [0, 1, 2, 3, 4] rfl) hI (hB.up (by omega)) hL hX9

set_option maxHeartbeats 4000000 in
set_option maxRecDepth 100000 in
theorem law_case3 {p : Program} {l : Launch} {e : Env} {s : State} {m : MethodId} {below : List Frame} {meth : Method} {c : Code} {b L : Nat} {xs : Nat → Int32} {dC : Nat → ClassId} {dI : Nat → Nat → Nat} {cI cZ cS cC cJ : ClassId} {a : Nat → Nat} (hx : p.tables.exec = Jvm.exec) (hb : c.code = cL_law) (hr : meth.sig.returnType = ret) (hml : c.maxLocals = 7) (hown : s.vm.findClass RL = some m.cls) (hts : ∀ w ∈ WW, w.before #[Value.ref b] s = true) (hX : va_X b L xs s s.heap) (hbl : b < s.heap.size) (hlocks : meth.locks = false) (hA : ∀ q : Nat, s.heap.size ≤ q → (fun q : Nat => s.heap.size ≤ q) q) (hbA : ¬ (fun q : Nat => s.heap.size ≤ q) b) (hK : va_K (dC, dI) vwCl [(cI, .int), (cZ, .boolean), (cS, .object RX3), (cC, .object RX0), (cJ, .long)] s) (hN : mN s) (hD : mDD a) (hAc : ∀ c, c < 81 → (fun q : Nat => s.heap.size ≤ q) (a c)) (hL5 : L ≤ 2560) {j : Nat} {k : Int32} (ek : k = nI (5 * j)) (hj : 5 * j + 5 ≤ L) {v : Nat → Nat → Int32} {H : Heap} {locs : List Loc} {ls : Array Slot} (hP : va_P (dC, dI) vwCl (mW cI cZ cS cC cJ a v) H) (hS : va_S (fun q : Nat => s.heap.size ≤ q) s.heap H locs) (hl : lv_has ls 7 [(0, .ref b), (1, .ref (a 0)), (2, .ref (a 45)), (3, .ref (a 80)), (4, .int k)]) (hI : kI v v) (hB : rB j v v) (hL : rL v) (hX9 : xR v) (hgo : ∀ (v : Nat → Nat → Int32) (H : Heap) (locs : List Loc) (ls : Array Slot), va_P (dC, dI) vwCl (mW cI cZ cS cC cJ a v) H → va_S (fun q : Nat => s.heap.size ≤ q) s.heap H locs → lv_has ls 7 [(0, .ref b), (1, .ref (a 0)), (2, .ref (a 45)), (3, .ref (a 80)), (4, .int k)] → kI v v → rB (j + 1) v v → rL v → xR v → W p l e room_1 s m #[Value.ref b] below meth c H locs (81 + (j + 1)) (10532 + 6 * (j + 1)) (lw_Z below #[Value.ref b] s) (F0 m 808 ls [])) : W p l e room_1 s m #[Value.ref b] below meth c H locs (81 + j) (10532 + 6 * j) (lw_Z below #[Value.ref b] s) (F0 m 283 ls []) := by
  refine lv_aload_n hx hb dL_law_283 rfl (lv_at hl 1 rfl) ?_
  refine lv_aload_n hx hb dL_law_284 rfl (lv_at hl 0 rfl) ?_
  refine lv_iload hx hb dL_law_285 (lv_at hl 4 rfl) ?_
  refine lv_iconst (v := 1) hx hb dL_law_287 (by decide) ?_
  refine lv_iadd hx hb dL_law_288 ?_
  refine lv_topi (fun t_1 et_1 => ?_)
  have ei_2 : t_1 = nI (5 * j + 1) := by rw [et_1, ek]; exact nI_add _ 1
  refine va_sld hx hb hX hbl hbA hS (kt_inN ei_2 (by omega) (by omega)) dL_law_289 ?_
  refine lv_topi (fun t_2 et_2 => ?_)
  rw [ei_2, nI_clamp (by omega)] at et_2
  refine lv_aload_n hx hb dL_law_290 rfl (lv_at hl 0 rfl) ?_
  refine lv_iload hx hb dL_law_291 (lv_at hl 4 rfl) ?_
  refine lv_iconst (v := 2) hx hb dL_law_293 (by decide) ?_
  refine lv_iadd hx hb dL_law_294 ?_
  refine lv_topi (fun t_3 et_3 => ?_)
  have ei_4 : t_3 = nI (5 * j + 2) := by rw [et_3, ek]; exact nI_add _ 2
  refine va_sld hx hb hX hbl hbA hS (kt_inN ei_4 (by omega) (by omega)) dL_law_295 ?_
  refine lv_topi (fun t_4 et_4 => ?_)
  rw [ei_4, nI_clamp (by omega)] at et_4
  have hFc := mA_free (a := a) hS hA hAc
  refine va_calli (va_runV (As := [.int t_2, .int t_4]) (rest := []) ⟨hx, hb, hml, hown, hts⟩ (c_X5_quiet l dC dI cI cZ cS cC cJ a v H.size t_2 t_4 hD hI.self) (cwV 2 hts (gV (fun w h => h) kw_t1_226 kw_t1_227 kw_t1_228 kw_t1_1 kw_t1_229) rfl rfl rfl (by decide +kernel) ⟨Nat.le_of_ble_eq_true rfl, Nat.le_of_ble_eq_true rfl⟩) ⟨fun av U g mk q => by obtain ⟨q0, q1, qP, qK, qN⟩ := q; exact ⟨q0, q1, qP, va_K.moved (u := U) (U := U.calling g mk av) (Vm.Alike.refl U.vm) qK, mN_same qN⟩, va_recv hK hP (ci := 5) (q0 := 0) rfl at_0, fun U hU hW => ⟨rfl, by rw [hU], by rw [hU]; exact hP, va_K.moved hW.alike hK, mN_warm hW hN⟩⟩ rfl rfl hl.1 rfl (lv_room (Nat.le_of_ble_eq_true rfl)) dL_law_296 ⟨by show (81 + j) + 0 ≤ 601024; omega, by show (10532 + 6 * j) + 0 ≤ 7293034; omega⟩) hS (fun q _ h => hFc q h) hFc (fun r_5 v_5 t H locs ht hvm hw_5 hP _ _ hS => ?_)
  have hP := kt_heap2 ht hP
  clear ht hFc
  have hP : va_P (dC, dI) vwCl (mW cI cZ cS cC cJ a v_5) H := hP
  have hB := hB.kfr (fun c h9 _ => hw_5.1.fr c h9)
  have hL := hL.kfr (fun c h9 _ => hw_5.1.fr c h9)
  have hX9 := hX9.k hw_5.1
  have hI := hw_5.1.self
  refine lv_pop hx hb dL_law_299 rfl ?_
  refine lv_aload_n hx hb dL_law_300 rfl (lv_at hl 2 rfl) ?_
  refine lv_aload_n hx hb dL_law_301 rfl (lv_at hl 0 rfl) ?_
  refine lv_iload hx hb dL_law_302 (lv_at hl 4 rfl) ?_
  refine lv_iconst (v := 1) hx hb dL_law_304 (by decide) ?_
  refine lv_iadd hx hb dL_law_305 ?_
  refine lv_topi (fun t_6 et_6 => ?_)
  have ei_7 : t_6 = nI (5 * j + 1) := by rw [et_6, ek]; exact nI_add _ 1
  refine va_sld hx hb hX hbl hbA hS (kt_inN ei_7 (by omega) (by omega)) dL_law_306 ?_
  refine lv_topi (fun t_7 et_7 => ?_)
  rw [ei_7, nI_clamp (by omega)] at et_7
  obtain rfl : t_2 = t_7 := et_2.trans et_7.symm
  refine lv_aload_n hx hb dL_law_307 rfl (lv_at hl 0 rfl) ?_
  refine lv_iload hx hb dL_law_308 (lv_at hl 4 rfl) ?_
  refine lv_iconst (v := 2) hx hb dL_law_310 (by decide) ?_
  refine lv_iadd hx hb dL_law_311 ?_
  refine lv_topi (fun t_8 et_8 => ?_)
  have ei_9 : t_8 = nI (5 * j + 2) := by rw [et_8, ek]; exact nI_add _ 2
  refine va_sld hx hb hX hbl hbA hS (kt_inN ei_9 (by omega) (by omega)) dL_law_312 ?_
  refine lv_topi (fun t_9 et_9 => ?_)
  rw [ei_9, nI_clamp (by omega)] at et_9
  obtain rfl : t_4 = t_9 := et_4.trans et_9.symm
  have hFc := mA_free (a := a) hS hA hAc
  refine va_calli (va_runV (As := [.int t_2, .int t_4]) (rest := []) ⟨hx, hb, hml, hown, hts⟩ (c_X6_quiet l dC dI cI cZ cS cC cJ a v_5 H.size t_2 t_4 hD j (by omega) hB.self hL) (cwV 2 hts (gV (fun w h => h) kw_t3_203 kw_t3_204 kw_t3_205 kw_t1_7 kw_t3_206) rfl rfl rfl (by decide +kernel) ⟨Nat.le_of_ble_eq_true rfl, Nat.le_of_ble_eq_true rfl⟩) ⟨fun av U g mk q => by obtain ⟨q0, q1, qP, qK, qN⟩ := q; exact ⟨q0, q1, qP, va_K.moved (u := U) (U := U.calling g mk av) (Vm.Alike.refl U.vm) qK, mN_same qN⟩, va_recv hK hP (ci := 6) (q0 := 45) rfl at_45, fun U hU hW => ⟨rfl, by rw [hU], by rw [hU]; exact hP, va_K.moved hW.alike hK, mN_warm hW hN⟩⟩ rfl rfl hl.1 rfl (lv_room (Nat.le_of_ble_eq_true rfl)) dL_law_313 ⟨by show (81 + j) + 0 ≤ 601024; omega, by show (10532 + 6 * j) + 0 ≤ 7293034; omega⟩) hS (fun q _ h => hFc q h) hFc (fun r_10 v_10 t H locs ht hvm hw_10 hP _ _ hS => ?_)
  have hP := kt_heap2 ht hP
  clear ht hFc
  have hP : va_P (dC, dI) vwCl (mW cI cZ cS cC cJ a v_10) H := hP
  have hX9 := hX9.r hw_10.1
  have hI := hI.rfr hw_10.1.fr
  have hB := hw_10.1.self
  have hL := hw_10.2.1
  refine lv_pop hx hb dL_law_316 rfl ?_
  refine lv_goto (tgt := 808) hx hb dL_law_317 (by decide) ?_
  refine W.widen (k := 81 + (j + 1)) (n := 10532 + 6 * (j + 1)) (by omega) (by omega) ?_
  exact hgo v_10 _ _ _ hP hS (lv_sub hl [0, 1, 2, 3, 4] rfl) hI (hB.up (by omega)) hL hX9

set_option maxHeartbeats 4000000 in
set_option maxRecDepth 100000 in
theorem law_case4 {p : Program} {l : Launch} {e : Env} {s : State} {m : MethodId} {below : List Frame} {meth : Method} {c : Code} {b L : Nat} {xs : Nat → Int32} {dC : Nat → ClassId} {dI : Nat → Nat → Nat} {cI cZ cS cC cJ : ClassId} {a : Nat → Nat} (hx : p.tables.exec = Jvm.exec) (hb : c.code = cL_law) (hr : meth.sig.returnType = ret) (hml : c.maxLocals = 7) (hown : s.vm.findClass RL = some m.cls) (hts : ∀ w ∈ WW, w.before #[Value.ref b] s = true) (hX : va_X b L xs s s.heap) (hbl : b < s.heap.size) (hlocks : meth.locks = false) (hA : ∀ q : Nat, s.heap.size ≤ q → (fun q : Nat => s.heap.size ≤ q) q) (hbA : ¬ (fun q : Nat => s.heap.size ≤ q) b) (hK : va_K (dC, dI) vwCl [(cI, .int), (cZ, .boolean), (cS, .object RX3), (cC, .object RX0), (cJ, .long)] s) (hN : mN s) (hD : mDD a) (hAc : ∀ c, c < 81 → (fun q : Nat => s.heap.size ≤ q) (a c)) (hL5 : L ≤ 2560) {j : Nat} {k : Int32} (ek : k = nI (5 * j)) (hj : 5 * j + 5 ≤ L) {v : Nat → Nat → Int32} {H : Heap} {locs : List Loc} {ls : Array Slot} (hP : va_P (dC, dI) vwCl (mW cI cZ cS cC cJ a v) H) (hS : va_S (fun q : Nat => s.heap.size ≤ q) s.heap H locs) (hl : lv_has ls 7 [(0, .ref b), (1, .ref (a 0)), (2, .ref (a 45)), (3, .ref (a 80)), (4, .int k)]) (hI : kI v v) (hB : rB j v v) (hL : rL v) (hX9 : xR v) (hgo : ∀ (v : Nat → Nat → Int32) (H : Heap) (locs : List Loc) (ls : Array Slot), va_P (dC, dI) vwCl (mW cI cZ cS cC cJ a v) H → va_S (fun q : Nat => s.heap.size ≤ q) s.heap H locs → lv_has ls 7 [(0, .ref b), (1, .ref (a 0)), (2, .ref (a 45)), (3, .ref (a 80)), (4, .int k)] → kI v v → rB (j + 1) v v → rL v → xR v → W p l e room_1 s m #[Value.ref b] below meth c H locs (81 + (j + 1)) (10532 + 6 * (j + 1)) (lw_Z below #[Value.ref b] s) (F0 m 808 ls [])) : W p l e room_1 s m #[Value.ref b] below meth c H locs (81 + j) (10532 + 6 * j) (lw_Z below #[Value.ref b] s) (F0 m 320 ls []) := by
  refine lv_aload_n hx hb dL_law_320 rfl (lv_at hl 1 rfl) ?_
  refine lv_aload_n hx hb dL_law_321 rfl (lv_at hl 0 rfl) ?_
  refine lv_iload hx hb dL_law_322 (lv_at hl 4 rfl) ?_
  refine lv_iconst (v := 1) hx hb dL_law_324 (by decide) ?_
  refine lv_iadd hx hb dL_law_325 ?_
  refine lv_topi (fun t_1 et_1 => ?_)
  have ei_2 : t_1 = nI (5 * j + 1) := by rw [et_1, ek]; exact nI_add _ 1
  refine va_sld hx hb hX hbl hbA hS (kt_inN ei_2 (by omega) (by omega)) dL_law_326 ?_
  refine lv_topi (fun t_2 et_2 => ?_)
  rw [ei_2, nI_clamp (by omega)] at et_2
  refine lv_aload_n hx hb dL_law_327 rfl (lv_at hl 0 rfl) ?_
  refine lv_iload hx hb dL_law_328 (lv_at hl 4 rfl) ?_
  refine lv_iconst (v := 2) hx hb dL_law_330 (by decide) ?_
  refine lv_iadd hx hb dL_law_331 ?_
  refine lv_topi (fun t_3 et_3 => ?_)
  have ei_4 : t_3 = nI (5 * j + 2) := by rw [et_3, ek]; exact nI_add _ 2
  refine va_sld hx hb hX hbl hbA hS (kt_inN ei_4 (by omega) (by omega)) dL_law_332 ?_
  refine lv_topi (fun t_4 et_4 => ?_)
  rw [ei_4, nI_clamp (by omega)] at et_4
  refine lv_if_eq (tgt := 340) hx hb dL_law_333 (by decide) (fun c_5 => ?_) (fun c_5 => ?_)
  · refine lv_iconst (v := 0) hx hb dL_law_340 (by decide) ?_
    have hFc := mA_free (a := a) hS hA hAc
    refine va_calli (va_runV (As := [.int t_2, .int 0]) (rest := []) ⟨hx, hb, hml, hown, hts⟩ (c_X5_down l dC dI cI cZ cS cC cJ a v H.size t_2 0 hD hI.self (Or.inl rfl)) (cwV 2 hts (gV (fun w h => h) kw_t1_230 kw_t1_231 kw_t1_232 kw_t1_1 kw_t1_233) rfl rfl rfl (by decide +kernel) ⟨Nat.le_of_ble_eq_true rfl, Nat.le_of_ble_eq_true rfl⟩) ⟨fun av U g mk q => by obtain ⟨q0, q1, qP, qK, qN⟩ := q; exact ⟨q0, q1, qP, va_K.moved (u := U) (U := U.calling g mk av) (Vm.Alike.refl U.vm) qK, mN_same qN⟩, va_recv hK hP (ci := 5) (q0 := 0) rfl at_0, fun U hU hW => ⟨rfl, by rw [hU], by rw [hU]; exact hP, va_K.moved hW.alike hK, mN_warm hW hN⟩⟩ rfl rfl hl.1 rfl (lv_room (Nat.le_of_ble_eq_true rfl)) dL_law_341 ⟨by show (81 + j) + 0 ≤ 601024; omega, by show (10532 + 6 * j) + 0 ≤ 7293034; omega⟩) hS (fun q _ h => hFc q h) hFc (fun r_6 v_6 t H locs ht hvm hw_6 hP _ _ hS => ?_)
    have hP := kt_heap2 ht hP
    clear ht hFc
    have hP : va_P (dC, dI) vwCl (mW cI cZ cS cC cJ a v_6) H := hP
    have hB := hB.kfr (fun c h9 _ => hw_6.1.fr c h9)
    have hL := hL.kfr (fun c h9 _ => hw_6.1.fr c h9)
    have hI := hw_6.1.self
    refine lv_pop hx hb dL_law_344 rfl ?_
    refine lv_aload_n hx hb dL_law_345 rfl (lv_at hl 2 rfl) ?_
    refine lv_aload_n hx hb dL_law_346 rfl (lv_at hl 0 rfl) ?_
    refine lv_iload hx hb dL_law_347 (lv_at hl 4 rfl) ?_
    refine lv_iconst (v := 1) hx hb dL_law_349 (by decide) ?_
    refine lv_iadd hx hb dL_law_350 ?_
    refine lv_topi (fun t_7 et_7 => ?_)
    have ei_8 : t_7 = nI (5 * j + 1) := by rw [et_7, ek]; exact nI_add _ 1
    refine va_sld hx hb hX hbl hbA hS (kt_inN ei_8 (by omega) (by omega)) dL_law_351 ?_
    refine lv_topi (fun t_8 et_8 => ?_)
    rw [ei_8, nI_clamp (by omega)] at et_8
    obtain rfl : t_2 = t_8 := et_2.trans et_8.symm
    refine lv_aload_n hx hb dL_law_352 rfl (lv_at hl 0 rfl) ?_
    refine lv_iload hx hb dL_law_353 (lv_at hl 4 rfl) ?_
    refine lv_iconst (v := 2) hx hb dL_law_355 (by decide) ?_
    refine lv_iadd hx hb dL_law_356 ?_
    refine lv_topi (fun t_9 et_9 => ?_)
    have ei_10 : t_9 = nI (5 * j + 2) := by rw [et_9, ek]; exact nI_add _ 2
    refine va_sld hx hb hX hbl hbA hS (kt_inN ei_10 (by omega) (by omega)) dL_law_357 ?_
    refine lv_topi (fun t_10 et_10 => ?_)
    rw [ei_10, nI_clamp (by omega)] at et_10
    obtain rfl : t_4 = t_10 := et_4.trans et_10.symm
    refine lv_if_eq (tgt := 365) hx hb dL_law_358 (by decide) (fun c_11 => ?_) (fun c_11 => absurd c_5 c_11)
    refine lv_iconst (v := 0) hx hb dL_law_365 (by decide) ?_
    have hFc := mA_free (a := a) hS hA hAc
    refine va_calli (va_runV (As := [.int t_2, .int 0]) (rest := []) ⟨hx, hb, hml, hown, hts⟩ (c_X6_down l dC dI cI cZ cS cC cJ a v_6 H.size t_2 0 hD j (by omega) hB.self hL) (cwV 2 hts (gV (fun w h => h) kw_t3_207 kw_t3_208 kw_t3_209 kw_t1_7 kw_t3_210) rfl rfl rfl (by decide +kernel) ⟨Nat.le_of_ble_eq_true rfl, Nat.le_of_ble_eq_true rfl⟩) ⟨fun av U g mk q => by obtain ⟨q0, q1, qP, qK, qN⟩ := q; exact ⟨q0, q1, qP, va_K.moved (u := U) (U := U.calling g mk av) (Vm.Alike.refl U.vm) qK, mN_same qN⟩, va_recv hK hP (ci := 6) (q0 := 45) rfl at_45, fun U hU hW => ⟨rfl, by rw [hU], by rw [hU]; exact hP, va_K.moved hW.alike hK, mN_warm hW hN⟩⟩ rfl rfl hl.1 rfl (lv_room (Nat.le_of_ble_eq_true rfl)) dL_law_366 ⟨by show (81 + j) + 0 ≤ 601024; omega, by show (10532 + 6 * j) + 0 ≤ 7293034; omega⟩) hS (fun q _ h => hFc q h) hFc (fun r_12 v_12 t H locs ht hvm hw_12 hP _ _ hS => ?_)
    have hP := kt_heap2 ht hP
    clear ht hFc
    have hP : va_P (dC, dI) vwCl (mW cI cZ cS cC cJ a v_12) H := hP
    have hres9 := xR.downE hX9 hw_6.1 hw_6.2 hw_12.2.2 (Or.inl rfl)
    have hX9 : xR v_12 := xR.down hX9 hw_6.1 hw_12.1 hw_6.2 hw_12.2.2 (Or.inl rfl)
    have hI := hI.rfr hw_12.1.fr
    have hB := hw_12.1.self
    have hL := hw_12.2.1
    refine lv_pop hx hb dL_law_369 rfl ?_
    refine lv_goto (tgt := 808) hx hb dL_law_370 (by decide) ?_
    refine W.widen (k := 81 + (j + 1)) (n := 10532 + 6 * (j + 1)) (by omega) (by omega) ?_
    exact hgo v_12 _ _ _ hP hS (lv_sub hl [0, 1, 2, 3, 4] rfl) hI (hB.up (by omega)) hL hX9
  · refine lv_iconst (v := 1) hx hb dL_law_336 (by decide) ?_
    refine lv_goto (tgt := 341) hx hb dL_law_337 (by decide) ?_
    have hFc := mA_free (a := a) hS hA hAc
    refine va_calli (va_runV (As := [.int t_2, .int 1]) (rest := []) ⟨hx, hb, hml, hown, hts⟩ (c_X5_down l dC dI cI cZ cS cC cJ a v H.size t_2 1 hD hI.self (Or.inr rfl)) (cwV 2 hts (gV (fun w h => h) kw_t1_230 kw_t1_231 kw_t1_232 kw_t1_1 kw_t1_233) rfl rfl rfl (by decide +kernel) ⟨Nat.le_of_ble_eq_true rfl, Nat.le_of_ble_eq_true rfl⟩) ⟨fun av U g mk q => by obtain ⟨q0, q1, qP, qK, qN⟩ := q; exact ⟨q0, q1, qP, va_K.moved (u := U) (U := U.calling g mk av) (Vm.Alike.refl U.vm) qK, mN_same qN⟩, va_recv hK hP (ci := 5) (q0 := 0) rfl at_0, fun U hU hW => ⟨rfl, by rw [hU], by rw [hU]; exact hP, va_K.moved hW.alike hK, mN_warm hW hN⟩⟩ rfl rfl hl.1 rfl (lv_room (Nat.le_of_ble_eq_true rfl)) dL_law_341 ⟨by show (81 + j) + 0 ≤ 601024; omega, by show (10532 + 6 * j) + 0 ≤ 7293034; omega⟩) hS (fun q _ h => hFc q h) hFc (fun r_13 v_13 t H locs ht hvm hw_13 hP _ _ hS => ?_)
    have hP := kt_heap2 ht hP
    clear ht hFc
    have hP : va_P (dC, dI) vwCl (mW cI cZ cS cC cJ a v_13) H := hP
    have hB := hB.kfr (fun c h9 _ => hw_13.1.fr c h9)
    have hL := hL.kfr (fun c h9 _ => hw_13.1.fr c h9)
    have hI := hw_13.1.self
    refine lv_pop hx hb dL_law_344 rfl ?_
    refine lv_aload_n hx hb dL_law_345 rfl (lv_at hl 2 rfl) ?_
    refine lv_aload_n hx hb dL_law_346 rfl (lv_at hl 0 rfl) ?_
    refine lv_iload hx hb dL_law_347 (lv_at hl 4 rfl) ?_
    refine lv_iconst (v := 1) hx hb dL_law_349 (by decide) ?_
    refine lv_iadd hx hb dL_law_350 ?_
    refine lv_topi (fun t_14 et_14 => ?_)
    have ei_15 : t_14 = nI (5 * j + 1) := by rw [et_14, ek]; exact nI_add _ 1
    refine va_sld hx hb hX hbl hbA hS (kt_inN ei_15 (by omega) (by omega)) dL_law_351 ?_
    refine lv_topi (fun t_15 et_15 => ?_)
    rw [ei_15, nI_clamp (by omega)] at et_15
    obtain rfl : t_2 = t_15 := et_2.trans et_15.symm
    refine lv_aload_n hx hb dL_law_352 rfl (lv_at hl 0 rfl) ?_
    refine lv_iload hx hb dL_law_353 (lv_at hl 4 rfl) ?_
    refine lv_iconst (v := 2) hx hb dL_law_355 (by decide) ?_
    refine lv_iadd hx hb dL_law_356 ?_
    refine lv_topi (fun t_16 et_16 => ?_)
    have ei_17 : t_16 = nI (5 * j + 2) := by rw [et_16, ek]; exact nI_add _ 2
    refine va_sld hx hb hX hbl hbA hS (kt_inN ei_17 (by omega) (by omega)) dL_law_357 ?_
    refine lv_topi (fun t_17 et_17 => ?_)
    rw [ei_17, nI_clamp (by omega)] at et_17
    obtain rfl : t_4 = t_17 := et_4.trans et_17.symm
    refine lv_if_eq (tgt := 365) hx hb dL_law_358 (by decide) (fun c_18 => absurd c_18 c_5) (fun c_18 => ?_)
    refine lv_iconst (v := 1) hx hb dL_law_361 (by decide) ?_
    refine lv_goto (tgt := 366) hx hb dL_law_362 (by decide) ?_
    have hFc := mA_free (a := a) hS hA hAc
    refine va_calli (va_runV (As := [.int t_2, .int 1]) (rest := []) ⟨hx, hb, hml, hown, hts⟩ (c_X6_down l dC dI cI cZ cS cC cJ a v_13 H.size t_2 1 hD j (by omega) hB.self hL) (cwV 2 hts (gV (fun w h => h) kw_t3_207 kw_t3_208 kw_t3_209 kw_t1_7 kw_t3_210) rfl rfl rfl (by decide +kernel) ⟨Nat.le_of_ble_eq_true rfl, Nat.le_of_ble_eq_true rfl⟩) ⟨fun av U g mk q => by obtain ⟨q0, q1, qP, qK, qN⟩ := q; exact ⟨q0, q1, qP, va_K.moved (u := U) (U := U.calling g mk av) (Vm.Alike.refl U.vm) qK, mN_same qN⟩, va_recv hK hP (ci := 6) (q0 := 45) rfl at_45, fun U hU hW => ⟨rfl, by rw [hU], by rw [hU]; exact hP, va_K.moved hW.alike hK, mN_warm hW hN⟩⟩ rfl rfl hl.1 rfl (lv_room (Nat.le_of_ble_eq_true rfl)) dL_law_366 ⟨by show (81 + j) + 0 ≤ 601024; omega, by show (10532 + 6 * j) + 0 ≤ 7293034; omega⟩) hS (fun q _ h => hFc q h) hFc (fun r_19 v_19 t H locs ht hvm hw_19 hP _ _ hS => ?_)
    have hP := kt_heap2 ht hP
    clear ht hFc
    have hP : va_P (dC, dI) vwCl (mW cI cZ cS cC cJ a v_19) H := hP
    have hres9 := xR.downE hX9 hw_13.1 hw_13.2 hw_19.2.2 (Or.inr rfl)
    have hX9 : xR v_19 := xR.down hX9 hw_13.1 hw_19.1 hw_13.2 hw_19.2.2 (Or.inr rfl)
    have hI := hI.rfr hw_19.1.fr
    have hB := hw_19.1.self
    have hL := hw_19.2.1
    refine lv_pop hx hb dL_law_369 rfl ?_
    refine lv_goto (tgt := 808) hx hb dL_law_370 (by decide) ?_
    refine W.widen (k := 81 + (j + 1)) (n := 10532 + 6 * (j + 1)) (by omega) (by omega) ?_
    exact hgo v_19 _ _ _ hP hS (lv_sub hl [0, 1, 2, 3, 4] rfl) hI (hB.up (by omega)) hL hX9

set_option maxHeartbeats 4000000 in
set_option maxRecDepth 100000 in
theorem law_case5 {p : Program} {l : Launch} {e : Env} {s : State} {m : MethodId} {below : List Frame} {meth : Method} {c : Code} {b L : Nat} {xs : Nat → Int32} {dC : Nat → ClassId} {dI : Nat → Nat → Nat} {cI cZ cS cC cJ : ClassId} {a : Nat → Nat} (hx : p.tables.exec = Jvm.exec) (hb : c.code = cL_law) (hr : meth.sig.returnType = ret) (hml : c.maxLocals = 7) (hown : s.vm.findClass RL = some m.cls) (hts : ∀ w ∈ WW, w.before #[Value.ref b] s = true) (hX : va_X b L xs s s.heap) (hbl : b < s.heap.size) (hlocks : meth.locks = false) (hA : ∀ q : Nat, s.heap.size ≤ q → (fun q : Nat => s.heap.size ≤ q) q) (hbA : ¬ (fun q : Nat => s.heap.size ≤ q) b) (hK : va_K (dC, dI) vwCl [(cI, .int), (cZ, .boolean), (cS, .object RX3), (cC, .object RX0), (cJ, .long)] s) (hN : mN s) (hD : mDD a) (hAc : ∀ c, c < 81 → (fun q : Nat => s.heap.size ≤ q) (a c)) (hL5 : L ≤ 2560) {j : Nat} {k : Int32} (ek : k = nI (5 * j)) (hj : 5 * j + 5 ≤ L) {v : Nat → Nat → Int32} {H : Heap} {locs : List Loc} {ls : Array Slot} (hP : va_P (dC, dI) vwCl (mW cI cZ cS cC cJ a v) H) (hS : va_S (fun q : Nat => s.heap.size ≤ q) s.heap H locs) (hl : lv_has ls 7 [(0, .ref b), (1, .ref (a 0)), (2, .ref (a 45)), (3, .ref (a 80)), (4, .int k)]) (hI : kI v v) (hB : rB j v v) (hL : rL v) (hX9 : xR v) (hgo : ∀ (v : Nat → Nat → Int32) (H : Heap) (locs : List Loc) (ls : Array Slot), va_P (dC, dI) vwCl (mW cI cZ cS cC cJ a v) H → va_S (fun q : Nat => s.heap.size ≤ q) s.heap H locs → lv_has ls 7 [(0, .ref b), (1, .ref (a 0)), (2, .ref (a 45)), (3, .ref (a 80)), (4, .int k)] → kI v v → rB (j + 1) v v → rL v → xR v → W p l e room_1 s m #[Value.ref b] below meth c H locs (81 + (j + 1)) (10532 + 6 * (j + 1)) (lw_Z below #[Value.ref b] s) (F0 m 808 ls [])) : W p l e room_1 s m #[Value.ref b] below meth c H locs (81 + j) (10532 + 6 * j) (lw_Z below #[Value.ref b] s) (F0 m 373 ls []) := by
  refine lv_aload_n hx hb dL_law_373 rfl (lv_at hl 1 rfl) ?_
  refine lv_aload_n hx hb dL_law_374 rfl (lv_at hl 0 rfl) ?_
  refine lv_iload hx hb dL_law_375 (lv_at hl 4 rfl) ?_
  refine lv_iconst (v := 1) hx hb dL_law_377 (by decide) ?_
  refine lv_iadd hx hb dL_law_378 ?_
  refine lv_topi (fun t_1 et_1 => ?_)
  have ei_2 : t_1 = nI (5 * j + 1) := by rw [et_1, ek]; exact nI_add _ 1
  refine va_sld hx hb hX hbl hbA hS (kt_inN ei_2 (by omega) (by omega)) dL_law_379 ?_
  refine lv_topi (fun t_2 et_2 => ?_)
  rw [ei_2, nI_clamp (by omega)] at et_2
  have hFc := mA_free (a := a) hS hA hAc
  refine va_calli (va_runV (As := [.int t_2]) (rest := []) ⟨hx, hb, hml, hown, hts⟩ (c_X5_turn l dC dI cI cZ cS cC cJ a v H.size t_2 hD hI.self) (cwV 1 hts (gV (fun w h => h) kw_t1_238 kw_t1_239 kw_t2_0 kw_t1_1 kw_t2_1) rfl rfl rfl (by decide +kernel) ⟨Nat.le_of_ble_eq_true rfl, Nat.le_of_ble_eq_true rfl⟩) ⟨fun av U g mk q => by obtain ⟨q0, q1, qP, qK, qN⟩ := q; exact ⟨q0, q1, qP, va_K.moved (u := U) (U := U.calling g mk av) (Vm.Alike.refl U.vm) qK, mN_same qN⟩, va_recv hK hP (ci := 5) (q0 := 0) rfl at_0, fun U hU hW => ⟨rfl, by rw [hU], by rw [hU]; exact hP, va_K.moved hW.alike hK, mN_warm hW hN⟩⟩ rfl rfl hl.1 rfl (lv_room (Nat.le_of_ble_eq_true rfl)) dL_law_380 ⟨by show (81 + j) + 0 ≤ 601024; omega, by show (10532 + 6 * j) + 0 ≤ 7293034; omega⟩) hS (fun q _ h => hFc q h) hFc (fun r_3 v_3 t H locs ht hvm hw_3 hP _ _ hS => ?_)
  have hP := kt_heap2 ht hP
  clear ht hFc
  have hP : va_P (dC, dI) vwCl (mW cI cZ cS cC cJ a v_3) H := hP
  have hB := hB.kfr (fun c h9 _ => hw_3.fr c h9)
  have hL := hL.kfr (fun c h9 _ => hw_3.fr c h9)
  have hX9 := hX9.k hw_3
  have hI := hw_3.self
  refine lv_pop hx hb dL_law_383 rfl ?_
  refine lv_aload_n hx hb dL_law_384 rfl (lv_at hl 2 rfl) ?_
  refine lv_aload_n hx hb dL_law_385 rfl (lv_at hl 0 rfl) ?_
  refine lv_iload hx hb dL_law_386 (lv_at hl 4 rfl) ?_
  refine lv_iconst (v := 1) hx hb dL_law_388 (by decide) ?_
  refine lv_iadd hx hb dL_law_389 ?_
  refine lv_topi (fun t_4 et_4 => ?_)
  have ei_5 : t_4 = nI (5 * j + 1) := by rw [et_4, ek]; exact nI_add _ 1
  refine va_sld hx hb hX hbl hbA hS (kt_inN ei_5 (by omega) (by omega)) dL_law_390 ?_
  refine lv_topi (fun t_5 et_5 => ?_)
  rw [ei_5, nI_clamp (by omega)] at et_5
  obtain rfl : t_2 = t_5 := et_2.trans et_5.symm
  have hFc := mA_free (a := a) hS hA hAc
  refine va_calli (va_runV (As := [.int t_2]) (rest := []) ⟨hx, hb, hml, hown, hts⟩ (c_X6_turn l dC dI cI cZ cS cC cJ a v_3 H.size t_2 hD j (by omega) hB.self hL) (cwV 1 hts (gV (fun w h => h) kw_t4_8 kw_t4_9 kw_t4_10 kw_t1_7 kw_t4_11) rfl rfl rfl (by decide +kernel) ⟨Nat.le_of_ble_eq_true rfl, Nat.le_of_ble_eq_true rfl⟩) ⟨fun av U g mk q => by obtain ⟨q0, q1, qP, qK, qN⟩ := q; exact ⟨q0, q1, qP, va_K.moved (u := U) (U := U.calling g mk av) (Vm.Alike.refl U.vm) qK, mN_same qN⟩, va_recv hK hP (ci := 6) (q0 := 45) rfl at_45, fun U hU hW => ⟨rfl, by rw [hU], by rw [hU]; exact hP, va_K.moved hW.alike hK, mN_warm hW hN⟩⟩ rfl rfl hl.1 rfl (lv_room (Nat.le_of_ble_eq_true rfl)) dL_law_391 ⟨by show (81 + j) + 0 ≤ 601024; omega, by show (10532 + 6 * j) + 0 ≤ 7293034; omega⟩) hS (fun q _ h => hFc q h) hFc (fun r_6 v_6 t H locs ht hvm hw_6 hP _ _ hS => ?_)
  have hP := kt_heap2 ht hP
  clear ht hFc
  have hP : va_P (dC, dI) vwCl (mW cI cZ cS cC cJ a v_6) H := hP
  have hX9 := hX9.r hw_6.1
  have hI := hI.rfr hw_6.1.fr
  have hB := hw_6.1.self
  have hL := hw_6.2
  refine lv_pop hx hb dL_law_394 rfl ?_
  refine lv_goto (tgt := 808) hx hb dL_law_395 (by decide) ?_
  refine W.widen (k := 81 + (j + 1)) (n := 10532 + 6 * (j + 1)) (by omega) (by omega) ?_
  exact hgo v_6 _ _ _ hP hS (lv_sub hl [0, 1, 2, 3, 4] rfl) hI (hB.up (by omega)) hL hX9

set_option maxHeartbeats 4000000 in
set_option maxRecDepth 100000 in
theorem law_case6 {p : Program} {l : Launch} {e : Env} {s : State} {m : MethodId} {below : List Frame} {meth : Method} {c : Code} {b L : Nat} {xs : Nat → Int32} {dC : Nat → ClassId} {dI : Nat → Nat → Nat} {cI cZ cS cC cJ : ClassId} {a : Nat → Nat} (hx : p.tables.exec = Jvm.exec) (hb : c.code = cL_law) (hr : meth.sig.returnType = ret) (hml : c.maxLocals = 7) (hown : s.vm.findClass RL = some m.cls) (hts : ∀ w ∈ WW, w.before #[Value.ref b] s = true) (hX : va_X b L xs s s.heap) (hbl : b < s.heap.size) (hlocks : meth.locks = false) (hA : ∀ q : Nat, s.heap.size ≤ q → (fun q : Nat => s.heap.size ≤ q) q) (hbA : ¬ (fun q : Nat => s.heap.size ≤ q) b) (hK : va_K (dC, dI) vwCl [(cI, .int), (cZ, .boolean), (cS, .object RX3), (cC, .object RX0), (cJ, .long)] s) (hN : mN s) (hD : mDD a) (hAc : ∀ c, c < 81 → (fun q : Nat => s.heap.size ≤ q) (a c)) (hL5 : L ≤ 2560) {j : Nat} {k : Int32} (ek : k = nI (5 * j)) (hj : 5 * j + 5 ≤ L) {v : Nat → Nat → Int32} {H : Heap} {locs : List Loc} {ls : Array Slot} (hP : va_P (dC, dI) vwCl (mW cI cZ cS cC cJ a v) H) (hS : va_S (fun q : Nat => s.heap.size ≤ q) s.heap H locs) (hl : lv_has ls 7 [(0, .ref b), (1, .ref (a 0)), (2, .ref (a 45)), (3, .ref (a 80)), (4, .int k)]) (hI : kI v v) (hB : rB j v v) (hL : rL v) (hX9 : xR v) (hgo : ∀ (v : Nat → Nat → Int32) (H : Heap) (locs : List Loc) (ls : Array Slot), va_P (dC, dI) vwCl (mW cI cZ cS cC cJ a v) H → va_S (fun q : Nat => s.heap.size ≤ q) s.heap H locs → lv_has ls 7 [(0, .ref b), (1, .ref (a 0)), (2, .ref (a 45)), (3, .ref (a 80)), (4, .int k)] → kI v v → rB (j + 1) v v → rL v → xR v → W p l e room_1 s m #[Value.ref b] below meth c H locs (81 + (j + 1)) (10532 + 6 * (j + 1)) (lw_Z below #[Value.ref b] s) (F0 m 808 ls [])) : W p l e room_1 s m #[Value.ref b] below meth c H locs (81 + j) (10532 + 6 * j) (lw_Z below #[Value.ref b] s) (F0 m 398 ls []) := by
  refine lv_aload_n hx hb dL_law_398 rfl (lv_at hl 1 rfl) ?_
  refine lv_aload_n hx hb dL_law_399 rfl (lv_at hl 0 rfl) ?_
  refine lv_iload hx hb dL_law_400 (lv_at hl 4 rfl) ?_
  refine lv_iconst (v := 1) hx hb dL_law_402 (by decide) ?_
  refine lv_iadd hx hb dL_law_403 ?_
  refine lv_topi (fun t_1 et_1 => ?_)
  have ei_2 : t_1 = nI (5 * j + 1) := by rw [et_1, ek]; exact nI_add _ 1
  refine va_sld hx hb hX hbl hbA hS (kt_inN ei_2 (by omega) (by omega)) dL_law_404 ?_
  refine lv_topi (fun t_2 et_2 => ?_)
  rw [ei_2, nI_clamp (by omega)] at et_2
  have hFc := mA_free (a := a) hS hA hAc
  refine va_calli (va_runV (As := [.int t_2]) (rest := []) ⟨hx, hb, hml, hown, hts⟩ (c_X5_stolen l dC dI cI cZ cS cC cJ a v H.size t_2 hD hI.self) (cwV 1 hts (gV (fun w h => h) kw_t2_42 kw_t2_43 kw_t2_44 kw_t1_1 kw_t2_45) rfl rfl rfl (by decide +kernel) ⟨Nat.le_of_ble_eq_true rfl, Nat.le_of_ble_eq_true rfl⟩) ⟨fun av U g mk q => by obtain ⟨q0, q1, qP, qK, qN⟩ := q; exact ⟨q0, q1, qP, va_K.moved (u := U) (U := U.calling g mk av) (Vm.Alike.refl U.vm) qK, mN_same qN⟩, va_recv hK hP (ci := 5) (q0 := 0) rfl at_0, fun U hU hW => ⟨rfl, by rw [hU], by rw [hU]; exact hP, va_K.moved hW.alike hK, mN_warm hW hN⟩⟩ rfl rfl hl.1 rfl (lv_room (Nat.le_of_ble_eq_true rfl)) dL_law_405 ⟨by show (81 + j) + 0 ≤ 601024; omega, by show (10532 + 6 * j) + 0 ≤ 7293034; omega⟩) hS (fun q _ h => hFc q h) hFc (fun r_3 v_3 t H locs ht hvm hw_3 hP _ _ hS => ?_)
  have hP := kt_heap2 ht hP
  clear ht hFc
  have hP : va_P (dC, dI) vwCl (mW cI cZ cS cC cJ a v_3) H := hP
  have hB := hB.kfr (fun c h9 _ => hw_3.fr c h9)
  have hL := hL.kfr (fun c h9 _ => hw_3.fr c h9)
  have hX9 := hX9.k hw_3
  have hI := hw_3.self
  refine lv_pop hx hb dL_law_408 rfl ?_
  refine lv_aload_n hx hb dL_law_409 rfl (lv_at hl 2 rfl) ?_
  refine lv_aload_n hx hb dL_law_410 rfl (lv_at hl 0 rfl) ?_
  refine lv_iload hx hb dL_law_411 (lv_at hl 4 rfl) ?_
  refine lv_iconst (v := 1) hx hb dL_law_413 (by decide) ?_
  refine lv_iadd hx hb dL_law_414 ?_
  refine lv_topi (fun t_4 et_4 => ?_)
  have ei_5 : t_4 = nI (5 * j + 1) := by rw [et_4, ek]; exact nI_add _ 1
  refine va_sld hx hb hX hbl hbA hS (kt_inN ei_5 (by omega) (by omega)) dL_law_415 ?_
  refine lv_topi (fun t_5 et_5 => ?_)
  rw [ei_5, nI_clamp (by omega)] at et_5
  obtain rfl : t_2 = t_5 := et_2.trans et_5.symm
  have hFc := mA_free (a := a) hS hA hAc
  refine va_calli (va_runV (As := [.int t_2]) (rest := []) ⟨hx, hb, hml, hown, hts⟩ (c_X6_stolen l dC dI cI cZ cS cC cJ a v_3 H.size t_2 hD j (by omega) hB.self hL) (cwV 1 hts (gV (fun w h => h) kw_t4_16 kw_t4_17 kw_t4_18 kw_t1_7 kw_t4_19) rfl rfl rfl (by decide +kernel) ⟨Nat.le_of_ble_eq_true rfl, Nat.le_of_ble_eq_true rfl⟩) ⟨fun av U g mk q => by obtain ⟨q0, q1, qP, qK, qN⟩ := q; exact ⟨q0, q1, qP, va_K.moved (u := U) (U := U.calling g mk av) (Vm.Alike.refl U.vm) qK, mN_same qN⟩, va_recv hK hP (ci := 6) (q0 := 45) rfl at_45, fun U hU hW => ⟨rfl, by rw [hU], by rw [hU]; exact hP, va_K.moved hW.alike hK, mN_warm hW hN⟩⟩ rfl rfl hl.1 rfl (lv_room (Nat.le_of_ble_eq_true rfl)) dL_law_416 ⟨by show (81 + j) + 0 ≤ 601024; omega, by show (10532 + 6 * j) + 0 ≤ 7293034; omega⟩) hS (fun q _ h => hFc q h) hFc (fun r_6 v_6 t H locs ht hvm hw_6 hP _ _ hS => ?_)
  have hP := kt_heap2 ht hP
  clear ht hFc
  have hP : va_P (dC, dI) vwCl (mW cI cZ cS cC cJ a v_6) H := hP
  have hX9 := hX9.r hw_6.1
  have hI := hI.rfr hw_6.1.fr
  have hB := hw_6.1.self
  have hL := hw_6.2
  refine lv_pop hx hb dL_law_419 rfl ?_
  refine lv_goto (tgt := 808) hx hb dL_law_420 (by decide) ?_
  refine W.widen (k := 81 + (j + 1)) (n := 10532 + 6 * (j + 1)) (by omega) (by omega) ?_
  exact hgo v_6 _ _ _ hP hS (lv_sub hl [0, 1, 2, 3, 4] rfl) hI (hB.up (by omega)) hL hX9

set_option maxHeartbeats 4000000 in
set_option maxRecDepth 100000 in
theorem law_case7 {p : Program} {l : Launch} {e : Env} {s : State} {m : MethodId} {below : List Frame} {meth : Method} {c : Code} {b L : Nat} {xs : Nat → Int32} {dC : Nat → ClassId} {dI : Nat → Nat → Nat} {cI cZ cS cC cJ : ClassId} {a : Nat → Nat} (hx : p.tables.exec = Jvm.exec) (hb : c.code = cL_law) (hr : meth.sig.returnType = ret) (hml : c.maxLocals = 7) (hown : s.vm.findClass RL = some m.cls) (hts : ∀ w ∈ WW, w.before #[Value.ref b] s = true) (hX : va_X b L xs s s.heap) (hbl : b < s.heap.size) (hlocks : meth.locks = false) (hA : ∀ q : Nat, s.heap.size ≤ q → (fun q : Nat => s.heap.size ≤ q) q) (hbA : ¬ (fun q : Nat => s.heap.size ≤ q) b) (hK : va_K (dC, dI) vwCl [(cI, .int), (cZ, .boolean), (cS, .object RX3), (cC, .object RX0), (cJ, .long)] s) (hN : mN s) (hD : mDD a) (hAc : ∀ c, c < 81 → (fun q : Nat => s.heap.size ≤ q) (a c)) (hL5 : L ≤ 2560) {j : Nat} {k : Int32} (ek : k = nI (5 * j)) (hj : 5 * j + 5 ≤ L) {v : Nat → Nat → Int32} {H : Heap} {locs : List Loc} {ls : Array Slot} (hP : va_P (dC, dI) vwCl (mW cI cZ cS cC cJ a v) H) (hS : va_S (fun q : Nat => s.heap.size ≤ q) s.heap H locs) (hl : lv_has ls 7 [(0, .ref b), (1, .ref (a 0)), (2, .ref (a 45)), (3, .ref (a 80)), (4, .int k)]) (hI : kI v v) (hB : rB j v v) (hL : rL v) (hX9 : xR v) (hgo : ∀ (v : Nat → Nat → Int32) (H : Heap) (locs : List Loc) (ls : Array Slot), va_P (dC, dI) vwCl (mW cI cZ cS cC cJ a v) H → va_S (fun q : Nat => s.heap.size ≤ q) s.heap H locs → lv_has ls 7 [(0, .ref b), (1, .ref (a 0)), (2, .ref (a 45)), (3, .ref (a 80)), (4, .int k)] → kI v v → rB (j + 1) v v → rL v → xR v → W p l e room_1 s m #[Value.ref b] below meth c H locs (81 + (j + 1)) (10532 + 6 * (j + 1)) (lw_Z below #[Value.ref b] s) (F0 m 808 ls [])) : W p l e room_1 s m #[Value.ref b] below meth c H locs (81 + j) (10532 + 6 * j) (lw_Z below #[Value.ref b] s) (F0 m 423 ls []) := by
  refine lv_aload_n hx hb dL_law_423 rfl (lv_at hl 1 rfl) ?_
  refine lv_aload_n hx hb dL_law_424 rfl (lv_at hl 0 rfl) ?_
  refine lv_iload hx hb dL_law_425 (lv_at hl 4 rfl) ?_
  refine lv_iconst (v := 1) hx hb dL_law_427 (by decide) ?_
  refine lv_iadd hx hb dL_law_428 ?_
  refine lv_topi (fun t_1 et_1 => ?_)
  have ei_2 : t_1 = nI (5 * j + 1) := by rw [et_1, ek]; exact nI_add _ 1
  refine va_sld hx hb hX hbl hbA hS (kt_inN ei_2 (by omega) (by omega)) dL_law_429 ?_
  refine lv_topi (fun t_2 et_2 => ?_)
  rw [ei_2, nI_clamp (by omega)] at et_2
  have hFc := mA_free (a := a) hS hA hAc
  refine va_calli (va_runV (As := [.int t_2]) (rest := []) ⟨hx, hb, hml, hown, hts⟩ (c_X5_tick l dC dI cI cZ cS cC cJ a v H.size t_2 hD hI.self hX9.1.2.2.1) (cwV 1 hts (gV (fun w h => h) kw_t2_54 kw_t2_55 kw_t2_56 kw_t1_1 kw_t2_57) rfl rfl rfl (by decide +kernel) ⟨Nat.le_of_ble_eq_true rfl, Nat.le_of_ble_eq_true rfl⟩) ⟨fun av U g mk q => by obtain ⟨q0, q1, qP, qK, qN⟩ := q; exact ⟨q0, q1, qP, va_K.moved (u := U) (U := U.calling g mk av) (Vm.Alike.refl U.vm) qK, mN_same qN⟩, va_recv hK hP (ci := 5) (q0 := 0) rfl at_0, fun U hU hW => ⟨rfl, by rw [hU], by rw [hU]; exact hP, va_K.moved hW.alike hK, mN_warm hW hN⟩⟩ rfl rfl hl.1 rfl (lv_room (Nat.le_of_ble_eq_true rfl)) dL_law_430 ⟨by show (81 + j) + 0 ≤ 601024; omega, by show (10532 + 6 * j) + 0 ≤ 7293034; omega⟩) hS (fun q _ h => hFc q h) hFc (fun r_3 v_3 t H locs ht hvm hw_3 hP _ _ hS => ?_)
  have hP := kt_heap2 ht hP
  clear ht hFc
  have hP : va_P (dC, dI) vwCl (mW cI cZ cS cC cJ a v_3) H := hP
  have hB := hB.kfr (fun c h9 _ => hw_3.1.fr c h9)
  have hL := hL.kfr (fun c h9 _ => hw_3.1.fr c h9)
  have hI := hw_3.1.self
  refine lv_pop hx hb dL_law_433 rfl ?_
  refine lv_aload_n hx hb dL_law_434 rfl (lv_at hl 2 rfl) ?_
  refine lv_aload_n hx hb dL_law_435 rfl (lv_at hl 0 rfl) ?_
  refine lv_iload hx hb dL_law_436 (lv_at hl 4 rfl) ?_
  refine lv_iconst (v := 1) hx hb dL_law_438 (by decide) ?_
  refine lv_iadd hx hb dL_law_439 ?_
  refine lv_topi (fun t_4 et_4 => ?_)
  have ei_5 : t_4 = nI (5 * j + 1) := by rw [et_4, ek]; exact nI_add _ 1
  refine va_sld hx hb hX hbl hbA hS (kt_inN ei_5 (by omega) (by omega)) dL_law_440 ?_
  refine lv_topi (fun t_5 et_5 => ?_)
  rw [ei_5, nI_clamp (by omega)] at et_5
  obtain rfl : t_2 = t_5 := et_2.trans et_5.symm
  have hFc := mA_free (a := a) hS hA hAc
  refine va_calli (va_runV (As := [.int t_2]) (rest := []) ⟨hx, hb, hml, hown, hts⟩ (c_X6_tick l dC dI cI cZ cS cC cJ a v_3 H.size t_2 hD j (by omega) hB.self hL (by rw [hw_3.1.fr 45 (by decide), ← hX9.1.2.1]; exact hX9.1.2.2.1)) (cwV 1 hts (gV (fun w h => h) kw_t3_211 kw_t3_212 kw_t3_213 kw_t1_7 kw_t3_214) rfl rfl rfl (by decide +kernel) ⟨Nat.le_of_ble_eq_true rfl, Nat.le_of_ble_eq_true rfl⟩) ⟨fun av U g mk q => by obtain ⟨q0, q1, qP, qK, qN⟩ := q; exact ⟨q0, q1, qP, va_K.moved (u := U) (U := U.calling g mk av) (Vm.Alike.refl U.vm) qK, mN_same qN⟩, va_recv hK hP (ci := 6) (q0 := 45) rfl at_45, fun U hU hW => ⟨rfl, by rw [hU], by rw [hU]; exact hP, va_K.moved hW.alike hK, mN_warm hW hN⟩⟩ rfl rfl hl.1 rfl (lv_room (Nat.le_of_ble_eq_true rfl)) dL_law_441 ⟨by show (81 + j) + 0 ≤ 601024; omega, by show (10532 + 6 * j) + 0 ≤ 7293034; omega⟩) hS (fun q _ h => hFc q h) hFc (fun r_6 v_6 t H locs ht hvm hw_6 hP _ _ hS => ?_)
  have hP := kt_heap2 ht hP
  clear ht hFc
  have hP : va_P (dC, dI) vwCl (mW cI cZ cS cC cJ a v_6) H := hP
  have hres9 := xR.tickE hX9 hw_3.1 hw_3.2 hw_6.2.2
  have hX9 : xR v_6 := xR.tick hX9 hw_3.1 hw_6.1 hw_3.2 hw_6.2.2
  have hI := hI.rfr hw_6.1.fr
  have hB := hw_6.1.self
  have hL := hw_6.2.1
  refine lv_pop hx hb dL_law_444 rfl ?_
  refine lv_goto (tgt := 808) hx hb dL_law_445 (by decide) ?_
  refine W.widen (k := 81 + (j + 1)) (n := 10532 + 6 * (j + 1)) (by omega) (by omega) ?_
  exact hgo v_6 _ _ _ hP hS (lv_sub hl [0, 1, 2, 3, 4] rfl) hI (hB.up (by omega)) hL hX9

set_option maxHeartbeats 4000000 in
set_option maxRecDepth 100000 in
theorem law_case8 {p : Program} {l : Launch} {e : Env} {s : State} {m : MethodId} {below : List Frame} {meth : Method} {c : Code} {b L : Nat} {xs : Nat → Int32} {dC : Nat → ClassId} {dI : Nat → Nat → Nat} {cI cZ cS cC cJ : ClassId} {a : Nat → Nat} (hx : p.tables.exec = Jvm.exec) (hb : c.code = cL_law) (hr : meth.sig.returnType = ret) (hml : c.maxLocals = 7) (hown : s.vm.findClass RL = some m.cls) (hts : ∀ w ∈ WW, w.before #[Value.ref b] s = true) (hX : va_X b L xs s s.heap) (hbl : b < s.heap.size) (hlocks : meth.locks = false) (hA : ∀ q : Nat, s.heap.size ≤ q → (fun q : Nat => s.heap.size ≤ q) q) (hbA : ¬ (fun q : Nat => s.heap.size ≤ q) b) (hK : va_K (dC, dI) vwCl [(cI, .int), (cZ, .boolean), (cS, .object RX3), (cC, .object RX0), (cJ, .long)] s) (hN : mN s) (hD : mDD a) (hAc : ∀ c, c < 81 → (fun q : Nat => s.heap.size ≤ q) (a c)) (hL5 : L ≤ 2560) {j : Nat} {k : Int32} (ek : k = nI (5 * j)) (hj : 5 * j + 5 ≤ L) {v : Nat → Nat → Int32} {H : Heap} {locs : List Loc} {ls : Array Slot} (hP : va_P (dC, dI) vwCl (mW cI cZ cS cC cJ a v) H) (hS : va_S (fun q : Nat => s.heap.size ≤ q) s.heap H locs) (hl : lv_has ls 7 [(0, .ref b), (1, .ref (a 0)), (2, .ref (a 45)), (3, .ref (a 80)), (4, .int k)]) (hI : kI v v) (hB : rB j v v) (hL : rL v) (hX9 : xR v) (hgo : ∀ (v : Nat → Nat → Int32) (H : Heap) (locs : List Loc) (ls : Array Slot), va_P (dC, dI) vwCl (mW cI cZ cS cC cJ a v) H → va_S (fun q : Nat => s.heap.size ≤ q) s.heap H locs → lv_has ls 7 [(0, .ref b), (1, .ref (a 0)), (2, .ref (a 45)), (3, .ref (a 80)), (4, .int k)] → kI v v → rB (j + 1) v v → rL v → xR v → W p l e room_1 s m #[Value.ref b] below meth c H locs (81 + (j + 1)) (10532 + 6 * (j + 1)) (lw_Z below #[Value.ref b] s) (F0 m 808 ls [])) : W p l e room_1 s m #[Value.ref b] below meth c H locs (81 + j) (10532 + 6 * j) (lw_Z below #[Value.ref b] s) (F0 m 448 ls []) := by
  refine lv_aload_n hx hb dL_law_448 rfl (lv_at hl 1 rfl) ?_
  refine lv_aload_n hx hb dL_law_449 rfl (lv_at hl 0 rfl) ?_
  refine lv_iload hx hb dL_law_450 (lv_at hl 4 rfl) ?_
  refine lv_iconst (v := 1) hx hb dL_law_452 (by decide) ?_
  refine lv_iadd hx hb dL_law_453 ?_
  refine lv_topi (fun t_1 et_1 => ?_)
  have ei_2 : t_1 = nI (5 * j + 1) := by rw [et_1, ek]; exact nI_add _ 1
  refine va_sld hx hb hX hbl hbA hS (kt_inN ei_2 (by omega) (by omega)) dL_law_454 ?_
  refine lv_topi (fun t_2 et_2 => ?_)
  rw [ei_2, nI_clamp (by omega)] at et_2
  refine lv_aload_n hx hb dL_law_455 rfl (lv_at hl 0 rfl) ?_
  refine lv_iload hx hb dL_law_456 (lv_at hl 4 rfl) ?_
  refine lv_iconst (v := 2) hx hb dL_law_458 (by decide) ?_
  refine lv_iadd hx hb dL_law_459 ?_
  refine lv_topi (fun t_3 et_3 => ?_)
  have ei_4 : t_3 = nI (5 * j + 2) := by rw [et_3, ek]; exact nI_add _ 2
  refine va_sld hx hb hX hbl hbA hS (kt_inN ei_4 (by omega) (by omega)) dL_law_460 ?_
  refine lv_topi (fun t_4 et_4 => ?_)
  rw [ei_4, nI_clamp (by omega)] at et_4
  refine lv_aload_n hx hb dL_law_461 rfl (lv_at hl 0 rfl) ?_
  refine lv_iload hx hb dL_law_462 (lv_at hl 4 rfl) ?_
  refine lv_iconst (v := 3) hx hb dL_law_464 (by decide) ?_
  refine lv_iadd hx hb dL_law_465 ?_
  refine lv_topi (fun t_5 et_5 => ?_)
  have ei_6 : t_5 = nI (5 * j + 3) := by rw [et_5, ek]; exact nI_add _ 3
  refine va_sld hx hb hX hbl hbA hS (kt_inN ei_6 (by omega) (by omega)) dL_law_466 ?_
  refine lv_topi (fun t_6 et_6 => ?_)
  rw [ei_6, nI_clamp (by omega)] at et_6
  have hFc := mA_free (a := a) hS hA hAc
  refine va_calli (va_runV (As := [.int t_2, .int t_4, .int t_6]) (rest := []) ⟨hx, hb, hml, hown, hts⟩ (c_X5_ask l dC dI cI cZ cS cC cJ a v H.size t_2 t_4 t_6 hD hI.self) (cwV 3 hts (gV (fun w h => h) kw_t2_108 kw_t2_109 kw_t2_110 kw_t1_1 kw_t2_111) rfl rfl rfl (by decide +kernel) ⟨Nat.le_of_ble_eq_true rfl, Nat.le_of_ble_eq_true rfl⟩) ⟨fun av U g mk q => by obtain ⟨q0, q1, qP, qK, qN⟩ := q; exact ⟨q0, q1, qP, va_K.moved (u := U) (U := U.calling g mk av) (Vm.Alike.refl U.vm) qK, mN_same qN⟩, va_recv hK hP (ci := 5) (q0 := 0) rfl at_0, fun U hU hW => ⟨rfl, by rw [hU], by rw [hU]; exact hP, va_K.moved hW.alike hK, mN_warm hW hN⟩⟩ rfl rfl hl.1 rfl (lv_room (Nat.le_of_ble_eq_true rfl)) dL_law_467 ⟨by show (81 + j) + 0 ≤ 601024; omega, by show (10532 + 6 * j) + 0 ≤ 7293034; omega⟩) hS (fun q _ h => hFc q h) hFc (fun r_7 v_7 t H locs ht hvm hw_7 hP _ _ hS => ?_)
  have hP := kt_heap2 ht hP
  clear ht hFc
  have hP : va_P (dC, dI) vwCl (mW cI cZ cS cC cJ a v_7) H := hP
  have hB := hB.kfr (fun c h9 _ => hw_7.fr c h9)
  have hL := hL.kfr (fun c h9 _ => hw_7.fr c h9)
  have hX9 := hX9.k hw_7
  have hI := hw_7.self
  refine lv_pop hx hb dL_law_470 rfl ?_
  refine lv_aload_n hx hb dL_law_471 rfl (lv_at hl 2 rfl) ?_
  refine lv_aload_n hx hb dL_law_472 rfl (lv_at hl 0 rfl) ?_
  refine lv_iload hx hb dL_law_473 (lv_at hl 4 rfl) ?_
  refine lv_iconst (v := 1) hx hb dL_law_475 (by decide) ?_
  refine lv_iadd hx hb dL_law_476 ?_
  refine lv_topi (fun t_8 et_8 => ?_)
  have ei_9 : t_8 = nI (5 * j + 1) := by rw [et_8, ek]; exact nI_add _ 1
  refine va_sld hx hb hX hbl hbA hS (kt_inN ei_9 (by omega) (by omega)) dL_law_477 ?_
  refine lv_topi (fun t_9 et_9 => ?_)
  rw [ei_9, nI_clamp (by omega)] at et_9
  obtain rfl : t_2 = t_9 := et_2.trans et_9.symm
  refine lv_aload_n hx hb dL_law_478 rfl (lv_at hl 0 rfl) ?_
  refine lv_iload hx hb dL_law_479 (lv_at hl 4 rfl) ?_
  refine lv_iconst (v := 2) hx hb dL_law_481 (by decide) ?_
  refine lv_iadd hx hb dL_law_482 ?_
  refine lv_topi (fun t_10 et_10 => ?_)
  have ei_11 : t_10 = nI (5 * j + 2) := by rw [et_10, ek]; exact nI_add _ 2
  refine va_sld hx hb hX hbl hbA hS (kt_inN ei_11 (by omega) (by omega)) dL_law_483 ?_
  refine lv_topi (fun t_11 et_11 => ?_)
  rw [ei_11, nI_clamp (by omega)] at et_11
  obtain rfl : t_4 = t_11 := et_4.trans et_11.symm
  refine lv_aload_n hx hb dL_law_484 rfl (lv_at hl 0 rfl) ?_
  refine lv_iload hx hb dL_law_485 (lv_at hl 4 rfl) ?_
  refine lv_iconst (v := 3) hx hb dL_law_487 (by decide) ?_
  refine lv_iadd hx hb dL_law_488 ?_
  refine lv_topi (fun t_12 et_12 => ?_)
  have ei_13 : t_12 = nI (5 * j + 3) := by rw [et_12, ek]; exact nI_add _ 3
  refine va_sld hx hb hX hbl hbA hS (kt_inN ei_13 (by omega) (by omega)) dL_law_489 ?_
  refine lv_topi (fun t_13 et_13 => ?_)
  rw [ei_13, nI_clamp (by omega)] at et_13
  obtain rfl : t_6 = t_13 := et_6.trans et_13.symm
  have hFc := mA_free (a := a) hS hA hAc
  refine va_calli (va_runV (As := [.int t_2, .int t_4, .int t_6]) (rest := []) ⟨hx, hb, hml, hown, hts⟩ (c_X6_ask l dC dI cI cZ cS cC cJ a v_7 H.size t_2 t_4 t_6 hD j (by omega) hB.self hL) (cwV 3 hts (gV (fun w h => h) kw_t4_20 kw_t4_21 kw_t4_22 kw_t1_7 kw_t4_23) rfl rfl rfl (by decide +kernel) ⟨Nat.le_of_ble_eq_true rfl, Nat.le_of_ble_eq_true rfl⟩) ⟨fun av U g mk q => by obtain ⟨q0, q1, qP, qK, qN⟩ := q; exact ⟨q0, q1, qP, va_K.moved (u := U) (U := U.calling g mk av) (Vm.Alike.refl U.vm) qK, mN_same qN⟩, va_recv hK hP (ci := 6) (q0 := 45) rfl at_45, fun U hU hW => ⟨rfl, by rw [hU], by rw [hU]; exact hP, va_K.moved hW.alike hK, mN_warm hW hN⟩⟩ rfl rfl hl.1 rfl (lv_room (Nat.le_of_ble_eq_true rfl)) dL_law_490 ⟨by show (81 + j) + 0 ≤ 601024; omega, by show (10532 + 6 * j) + 0 ≤ 7293034; omega⟩) hS (fun q _ h => hFc q h) hFc (fun r_14 v_14 t H locs ht hvm hw_14 hP _ _ hS => ?_)
  have hP := kt_heap2 ht hP
  clear ht hFc
  have hP : va_P (dC, dI) vwCl (mW cI cZ cS cC cJ a v_14) H := hP
  have hX9 := hX9.r hw_14.1
  have hI := hI.rfr hw_14.1.fr
  have hB := hw_14.1.self
  have hL := hw_14.2
  refine lv_pop hx hb dL_law_493 rfl ?_
  refine lv_goto (tgt := 808) hx hb dL_law_494 (by decide) ?_
  refine W.widen (k := 81 + (j + 1)) (n := 10532 + 6 * (j + 1)) (by omega) (by omega) ?_
  exact hgo v_14 _ _ _ hP hS (lv_sub hl [0, 1, 2, 3, 4] rfl) hI (hB.up (by omega)) hL hX9
