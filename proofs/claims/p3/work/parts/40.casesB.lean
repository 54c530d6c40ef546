set_option maxHeartbeats 4000000 in
set_option maxRecDepth 100000 in
theorem law_case9 {p : Program} {l : Launch} {e : Env} {s : State} {m : MethodId} {below : List Frame} {meth : Method} {c : Code} {b L : Nat} {xs : Nat → Int32} {dC : Nat → ClassId} {dI : Nat → Nat → Nat} {cI cZ cS cC cJ : ClassId} {a : Nat → Nat} (hx : p.tables.exec = Jvm.exec) (hb : c.code = cL_law) (hr : meth.sig.returnType = ret) (hml : c.maxLocals = 7) (hown : s.vm.findClass RL = some m.cls) (hts : ∀ w ∈ WW, w.before #[Value.ref b] s = true) (hX : va_X b L xs s s.heap) (hbl : b < s.heap.size) (hlocks : meth.locks = false) (hA : ∀ q : Nat, s.heap.size ≤ q → (fun q : Nat => s.heap.size ≤ q) q) (hbA : ¬ (fun q : Nat => s.heap.size ≤ q) b) (hK : va_K (dC, dI) vwCl [(cI, .int), (cZ, .boolean), (cS, .object RX3), (cC, .object RX0), (cJ, .long)] s) (hN : mN s) (hD : mDD a) (hAc : ∀ c, c < 81 → (fun q : Nat => s.heap.size ≤ q) (a c)) (hL5 : L ≤ 2560) {j : Nat} {k : Int32} (ek : k = nI (5 * j)) (hj : 5 * j + 5 ≤ L) {v : Nat → Nat → Int32} {H : Heap} {locs : List Loc} {ls : Array Slot} (hP : va_P (dC, dI) vwCl (mW cI cZ cS cC cJ a v) H) (hS : va_S (fun q : Nat => s.heap.size ≤ q) s.heap H locs) (hl : lv_has ls 7 [(0, .ref b), (1, .ref (a 0)), (2, .ref (a 45)), (3, .ref (a 80)), (4, .int k)]) (hI : kI v v) (hB : rB j v v) (hL : rL v) (hX9 : xR v) (hgo : ∀ (v : Nat → Nat → Int32) (H : Heap) (locs : List Loc) (ls : Array Slot), va_P (dC, dI) vwCl (mW cI cZ cS cC cJ a v) H → va_S (fun q : Nat => s.heap.size ≤ q) s.heap H locs → lv_has ls 7 [(0, .ref b), (1, .ref (a 0)), (2, .ref (a 45)), (3, .ref (a 80)), (4, .int k)] → kI v v → rB (j + 1) v v → rL v → xR v → W p l e room_1 s m #[Value.ref b] below meth c H locs (81 + (j + 1)) (10532 + 6 * (j + 1)) (lw_Z below #[Value.ref b] s) (F0 m 808 ls [])) : W p l e room_1 s m #[Value.ref b] below meth c H locs (81 + j) (10532 + 6 * j) (lw_Z below #[Value.ref b] s) (F0 m 497 ls []) := by
  refine lv_aload_n hx hb dL_law_497 rfl (lv_at hl 1 rfl) ?_
  refine lv_aload_n hx hb dL_law_498 rfl (lv_at hl 0 rfl) ?_
  refine lv_iload hx hb dL_law_499 (lv_at hl 4 rfl) ?_
  refine lv_iconst (v := 1) hx hb dL_law_501 (by decide) ?_
  refine lv_iadd hx hb dL_law_502 ?_
  refine lv_topi (fun t_1 et_1 => ?_)
  have ei_2 : t_1 = nI (5 * j + 1) := by rw [et_1, ek]; exact nI_add _ 1
  refine va_sld hx hb hX hbl hbA hS (kt_inN ei_2 (by omega) (by omega)) dL_law_503 ?_
  refine lv_topi (fun t_2 et_2 => ?_)
  rw [ei_2, nI_clamp (by omega)] at et_2
  refine lv_aload_n hx hb dL_law_504 rfl (lv_at hl 0 rfl) ?_
  refine lv_iload hx hb dL_law_505 (lv_at hl 4 rfl) ?_
  refine lv_iconst (v := 2) hx hb dL_law_507 (by decide) ?_
  refine lv_iadd hx hb dL_law_508 ?_
  refine lv_topi (fun t_3 et_3 => ?_)
  have ei_4 : t_3 = nI (5 * j + 2) := by rw [et_3, ek]; exact nI_add _ 2
  refine va_sld hx hb hX hbl hbA hS (kt_inN ei_4 (by omega) (by omega)) dL_law_509 ?_
  refine lv_topi (fun t_4 et_4 => ?_)
  rw [ei_4, nI_clamp (by omega)] at et_4
  refine lv_aload_n hx hb dL_law_510 rfl (lv_at hl 0 rfl) ?_
  refine lv_iload hx hb dL_law_511 (lv_at hl 4 rfl) ?_
  refine lv_iconst (v := 3) hx hb dL_law_513 (by decide) ?_
  refine lv_iadd hx hb dL_law_514 ?_
  refine lv_topi (fun t_5 et_5 => ?_)
  have ei_6 : t_5 = nI (5 * j + 3) := by rw [et_5, ek]; exact nI_add _ 3
  refine va_sld hx hb hX hbl hbA hS (kt_inN ei_6 (by omega) (by omega)) dL_law_515 ?_
  refine lv_topi (fun t_6 et_6 => ?_)
  rw [ei_6, nI_clamp (by omega)] at et_6
  refine lv_aload_n hx hb dL_law_516 rfl (lv_at hl 0 rfl) ?_
  refine lv_iload hx hb dL_law_517 (lv_at hl 4 rfl) ?_
  refine lv_iconst (v := 4) hx hb dL_law_519 (by decide) ?_
  refine lv_iadd hx hb dL_law_520 ?_
  refine lv_topi (fun t_7 et_7 => ?_)
  have ei_8 : t_7 = nI (5 * j + 4) := by rw [et_7, ek]; exact nI_add _ 4
  refine va_sld hx hb hX hbl hbA hS (kt_inN ei_8 (by omega) (by omega)) dL_law_521 ?_
  refine lv_topi (fun t_8 et_8 => ?_)
  rw [ei_8, nI_clamp (by omega)] at et_8
  have hFc := mA_free (a := a) hS hA hAc
  refine va_calli (va_runV (As := [.int t_2, .int t_4, .int t_6, .int t_8]) (rest := []) ⟨hx, hb, hml, hown, hts⟩ (c_X5_stranger l dC dI cI cZ cS cC cJ a v H.size t_2 t_4 t_6 t_8 hD hI.self) (cwV 4 hts (gV (fun w h => h) kw_t2_134 kw_t2_135 kw_t2_136 kw_t1_1 kw_t2_137) rfl rfl rfl (by decide +kernel) ⟨Nat.le_of_ble_eq_true rfl, Nat.le_of_ble_eq_true rfl⟩) ⟨fun av U g mk q => by obtain ⟨q0, q1, qP, qK, qN⟩ := q; exact ⟨q0, q1, qP, va_K.moved (u := U) (U := U.calling g mk av) (Vm.Alike.refl U.vm) qK, mN_same qN⟩, va_recv hK hP (ci := 5) (q0 := 0) rfl at_0, fun U hU hW => ⟨rfl, by rw [hU], by rw [hU]; exact hP, va_K.moved hW.alike hK, mN_warm hW hN⟩⟩ rfl rfl hl.1 rfl (lv_room (Nat.le_of_ble_eq_true rfl)) dL_law_522 ⟨by show (81 + j) + 0 ≤ 601024; omega, by show (10532 + 6 * j) + 0 ≤ 7293034; omega⟩) hS (fun q _ h => hFc q h) hFc (fun r_9 v_9 t H locs ht hvm hw_9 hP _ _ hS => ?_)
  have hP := kt_heap2 ht hP
  clear ht hFc
  have hP : va_P (dC, dI) vwCl (mW cI cZ cS cC cJ a v_9) H := hP
  have hB := hB.kfr (fun c h9 _ => hw_9.fr c h9)
  have hL := hL.kfr (fun c h9 _ => hw_9.fr c h9)
  have hX9 := hX9.k hw_9
  have hI := hw_9.self
  refine lv_pop hx hb dL_law_525 rfl ?_
  refine lv_aload_n hx hb dL_law_526 rfl (lv_at hl 2 rfl) ?_
  refine lv_aload_n hx hb dL_law_527 rfl (lv_at hl 0 rfl) ?_
  refine lv_iload hx hb dL_law_528 (lv_at hl 4 rfl) ?_
  refine lv_iconst (v := 1) hx hb dL_law_530 (by decide) ?_
  refine lv_iadd hx hb dL_law_531 ?_
  refine lv_topi (fun t_10 et_10 => ?_)
  have ei_11 : t_10 = nI (5 * j + 1) := by rw [et_10, ek]; exact nI_add _ 1
  refine va_sld hx hb hX hbl hbA hS (kt_inN ei_11 (by omega) (by omega)) dL_law_532 ?_
  refine lv_topi (fun t_11 et_11 => ?_)
  rw [ei_11, nI_clamp (by omega)] at et_11
  obtain rfl : t_2 = t_11 := et_2.trans et_11.symm
  refine lv_aload_n hx hb dL_law_533 rfl (lv_at hl 0 rfl) ?_
  refine lv_iload hx hb dL_law_534 (lv_at hl 4 rfl) ?_
  refine lv_iconst (v := 2) hx hb dL_law_536 (by decide) ?_
  refine lv_iadd hx hb dL_law_537 ?_
  refine lv_topi (fun t_12 et_12 => ?_)
  have ei_13 : t_12 = nI (5 * j + 2) := by rw [et_12, ek]; exact nI_add _ 2
  refine va_sld hx hb hX hbl hbA hS (kt_inN ei_13 (by omega) (by omega)) dL_law_538 ?_
  refine lv_topi (fun t_13 et_13 => ?_)
  rw [ei_13, nI_clamp (by omega)] at et_13
  obtain rfl : t_4 = t_13 := et_4.trans et_13.symm
  refine lv_aload_n hx hb dL_law_539 rfl (lv_at hl 0 rfl) ?_
  refine lv_iload hx hb dL_law_540 (lv_at hl 4 rfl) ?_
  refine lv_iconst (v := 3) hx hb dL_law_542 (by decide) ?_
  refine lv_iadd hx hb dL_law_543 ?_
  refine lv_topi (fun t_14 et_14 => ?_)
  have ei_15 : t_14 = nI (5 * j + 3) := by rw [et_14, ek]; exact nI_add _ 3
  refine va_sld hx hb hX hbl hbA hS (kt_inN ei_15 (by omega) (by omega)) dL_law_544 ?_
  refine lv_topi (fun t_15 et_15 => ?_)
  rw [ei_15, nI_clamp (by omega)] at et_15
  obtain rfl : t_6 = t_15 := et_6.trans et_15.symm
  refine lv_aload_n hx hb dL_law_545 rfl (lv_at hl 0 rfl) ?_
  refine lv_iload hx hb dL_law_546 (lv_at hl 4 rfl) ?_
  refine lv_iconst (v := 4) hx hb dL_law_548 (by decide) ?_
  refine lv_iadd hx hb dL_law_549 ?_
  refine lv_topi (fun t_16 et_16 => ?_)
  have ei_17 : t_16 = nI (5 * j + 4) := by rw [et_16, ek]; exact nI_add _ 4
  refine va_sld hx hb hX hbl hbA hS (kt_inN ei_17 (by omega) (by omega)) dL_law_550 ?_
  refine lv_topi (fun t_17 et_17 => ?_)
  rw [ei_17, nI_clamp (by omega)] at et_17
  obtain rfl : t_8 = t_17 := et_8.trans et_17.symm
  have hFc := mA_free (a := a) hS hA hAc
  refine va_calli (va_runV (As := [.int t_2, .int t_4, .int t_6, .int t_8]) (rest := []) ⟨hx, hb, hml, hown, hts⟩ (c_X6_stranger l dC dI cI cZ cS cC cJ a v_9 H.size t_2 t_4 t_6 t_8 hD j (by omega) hB.self hL) (cwV 4 hts (gV (fun w h => h) kw_t4_40 kw_t4_41 kw_t4_42 kw_t1_7 kw_t4_43) rfl rfl rfl (by decide +kernel) ⟨Nat.le_of_ble_eq_true rfl, Nat.le_of_ble_eq_true rfl⟩) ⟨fun av U g mk q => by obtain ⟨q0, q1, qP, qK, qN⟩ := q; exact ⟨q0, q1, qP, va_K.moved (u := U) (U := U.calling g mk av) (Vm.Alike.refl U.vm) qK, mN_same qN⟩, va_recv hK hP (ci := 6) (q0 := 45) rfl at_45, fun U hU hW => ⟨rfl, by rw [hU], by rw [hU]; exact hP, va_K.moved hW.alike hK, mN_warm hW hN⟩⟩ rfl rfl hl.1 rfl (lv_room (Nat.le_of_ble_eq_true rfl)) dL_law_551 ⟨by show (81 + j) + 0 ≤ 601024; omega, by show (10532 + 6 * j) + 0 ≤ 7293034; omega⟩) hS (fun q _ h => hFc q h) hFc (fun r_18 v_18 t H locs ht hvm hw_18 hP _ _ hS => ?_)
  have hP := kt_heap2 ht hP
  clear ht hFc
  have hP : va_P (dC, dI) vwCl (mW cI cZ cS cC cJ a v_18) H := hP
  have hX9 := hX9.r hw_18.1
  have hI := hI.rfr hw_18.1.fr
  have hB := hw_18.1.self
  have hL := hw_18.2
  refine lv_pop hx hb dL_law_554 rfl ?_
  refine lv_goto (tgt := 808) hx hb dL_law_555 (by decide) ?_
  refine W.widen (k := 81 + (j + 1)) (n := 10532 + 6 * (j + 1)) (by omega) (by omega) ?_
  exact hgo v_18 _ _ _ hP hS (lv_sub hl [0, 1, 2, 3, 4] rfl) hI (hB.up (by omega)) hL hX9

set_option maxHeartbeats 4000000 in
set_option maxRecDepth 100000 in
theorem law_case10 {p : Program} {l : Launch} {e : Env} {s : State} {m : MethodId} {below : List Frame} {meth : Method} {c : Code} {b L : Nat} {xs : Nat → Int32} {dC : Nat → ClassId} {dI : Nat → Nat → Nat} {cI cZ cS cC cJ : ClassId} {a : Nat → Nat} (hx : p.tables.exec = Jvm.exec) (hb : c.code = cL_law) (hr : meth.sig.returnType = ret) (hml : c.maxLocals = 7) (hown : s.vm.findClass RL = some m.cls) (hts : ∀ w ∈ WW, w.before #[Value.ref b] s = true) (hX : va_X b L xs s s.heap) (hbl : b < s.heap.size) (hlocks : meth.locks = false) (hA : ∀ q : Nat, s.heap.size ≤ q → (fun q : Nat => s.heap.size ≤ q) q) (hbA : ¬ (fun q : Nat => s.heap.size ≤ q) b) (hK : va_K (dC, dI) vwCl [(cI, .int), (cZ, .boolean), (cS, .object RX3), (cC, .object RX0), (cJ, .long)] s) (hN : mN s) (hD : mDD a) (hAc : ∀ c, c < 81 → (fun q : Nat => s.heap.size ≤ q) (a c)) (hL5 : L ≤ 2560) {j : Nat} {k : Int32} (ek : k = nI (5 * j)) (hj : 5 * j + 5 ≤ L) {v : Nat → Nat → Int32} {H : Heap} {locs : List Loc} {ls : Array Slot} (hP : va_P (dC, dI) vwCl (mW cI cZ cS cC cJ a v) H) (hS : va_S (fun q : Nat => s.heap.size ≤ q) s.heap H locs) (hl : lv_has ls 7 [(0, .ref b), (1, .ref (a 0)), (2, .ref (a 45)), (3, .ref (a 80)), (4, .int k)]) (hI : kI v v) (hB : rB j v v) (hL : rL v) (hX9 : xR v) (hgo : ∀ (v : Nat → Nat → Int32) (H : Heap) (locs : List Loc) (ls : Array Slot), va_P (dC, dI) vwCl (mW cI cZ cS cC cJ a v) H → va_S (fun q : Nat => s.heap.size ≤ q) s.heap H locs → lv_has ls 7 [(0, .ref b), (1, .ref (a 0)), (2, .ref (a 45)), (3, .ref (a 80)), (4, .int k)] → kI v v → rB (j + 1) v v → rL v → xR v → W p l e room_1 s m #[Value.ref b] below meth c H locs (81 + (j + 1)) (10532 + 6 * (j + 1)) (lw_Z below #[Value.ref b] s) (F0 m 808 ls [])) : W p l e room_1 s m #[Value.ref b] below meth c H locs (81 + j) (10532 + 6 * j) (lw_Z below #[Value.ref b] s) (F0 m 558 ls []) := by
  refine lv_aload_n hx hb dL_law_558 rfl (lv_at hl 1 rfl) ?_
  refine lv_aload_n hx hb dL_law_559 rfl (lv_at hl 0 rfl) ?_
  refine lv_iload hx hb dL_law_560 (lv_at hl 4 rfl) ?_
  refine lv_iconst (v := 1) hx hb dL_law_562 (by decide) ?_
  refine lv_iadd hx hb dL_law_563 ?_
  refine lv_topi (fun t_1 et_1 => ?_)
  have ei_2 : t_1 = nI (5 * j + 1) := by rw [et_1, ek]; exact nI_add _ 1
  refine va_sld hx hb hX hbl hbA hS (kt_inN ei_2 (by omega) (by omega)) dL_law_564 ?_
  refine lv_topi (fun t_2 et_2 => ?_)
  rw [ei_2, nI_clamp (by omega)] at et_2
  refine lv_aload_n hx hb dL_law_565 rfl (lv_at hl 0 rfl) ?_
  refine lv_iload hx hb dL_law_566 (lv_at hl 4 rfl) ?_
  refine lv_iconst (v := 2) hx hb dL_law_568 (by decide) ?_
  refine lv_iadd hx hb dL_law_569 ?_
  refine lv_topi (fun t_3 et_3 => ?_)
  have ei_4 : t_3 = nI (5 * j + 2) := by rw [et_3, ek]; exact nI_add _ 2
  refine va_sld hx hb hX hbl hbA hS (kt_inN ei_4 (by omega) (by omega)) dL_law_570 ?_
  refine lv_topi (fun t_4 et_4 => ?_)
  rw [ei_4, nI_clamp (by omega)] at et_4
  have hFc := mA_free (a := a) hS hA hAc
  refine va_calli (va_runV (As := [.int t_2, .int t_4]) (rest := []) ⟨hx, hb, hml, hown, hts⟩ (c_X5_told l dC dI cI cZ cS cC cJ a v H.size t_2 t_4 hD hI.self) (cwV 2 hts (gV (fun w h => h) kw_t2_138 kw_t2_139 kw_t2_140 kw_t1_1 kw_t2_141) rfl rfl rfl (by decide +kernel) ⟨Nat.le_of_ble_eq_true rfl, Nat.le_of_ble_eq_true rfl⟩) ⟨fun av U g mk q => by obtain ⟨q0, q1, qP, qK, qN⟩ := q; exact ⟨q0, q1, qP, va_K.moved (u := U) (U := U.calling g mk av) (Vm.Alike.refl U.vm) qK, mN_same qN⟩, va_recv hK hP (ci := 5) (q0 := 0) rfl at_0, fun U hU hW => ⟨rfl, by rw [hU], by rw [hU]; exact hP, va_K.moved hW.alike hK, mN_warm hW hN⟩⟩ rfl rfl hl.1 rfl (lv_room (Nat.le_of_ble_eq_true rfl)) dL_law_571 ⟨by show (81 + j) + 0 ≤ 601024; omega, by show (10532 + 6 * j) + 0 ≤ 7293034; omega⟩) hS (fun q _ h => hFc q h) hFc (fun r_5 v_5 t H locs ht hvm hw_5 hP _ _ hS => ?_)
  have hP := kt_heap2 ht hP
  clear ht hFc
  have hP : va_P (dC, dI) vwCl (mW cI cZ cS cC cJ a v_5) H := hP
  have hB := hB.kfr (fun c h9 _ => hw_5.fr c h9)
  have hL := hL.kfr (fun c h9 _ => hw_5.fr c h9)
  have hX9 := hX9.k hw_5
  have hI := hw_5.self
  refine lv_pop hx hb dL_law_574 rfl ?_
  refine lv_aload_n hx hb dL_law_575 rfl (lv_at hl 2 rfl) ?_
  refine lv_aload_n hx hb dL_law_576 rfl (lv_at hl 0 rfl) ?_
  refine lv_iload hx hb dL_law_577 (lv_at hl 4 rfl) ?_
  refine lv_iconst (v := 1) hx hb dL_law_579 (by decide) ?_
  refine lv_iadd hx hb dL_law_580 ?_
  refine lv_topi (fun t_6 et_6 => ?_)
  have ei_7 : t_6 = nI (5 * j + 1) := by rw [et_6, ek]; exact nI_add _ 1
  refine va_sld hx hb hX hbl hbA hS (kt_inN ei_7 (by omega) (by omega)) dL_law_581 ?_
  refine lv_topi (fun t_7 et_7 => ?_)
  rw [ei_7, nI_clamp (by omega)] at et_7
  obtain rfl : t_2 = t_7 := et_2.trans et_7.symm
  refine lv_aload_n hx hb dL_law_582 rfl (lv_at hl 0 rfl) ?_
  refine lv_iload hx hb dL_law_583 (lv_at hl 4 rfl) ?_
  refine lv_iconst (v := 2) hx hb dL_law_585 (by decide) ?_
  refine lv_iadd hx hb dL_law_586 ?_
  refine lv_topi (fun t_8 et_8 => ?_)
  have ei_9 : t_8 = nI (5 * j + 2) := by rw [et_8, ek]; exact nI_add _ 2
  refine va_sld hx hb hX hbl hbA hS (kt_inN ei_9 (by omega) (by omega)) dL_law_587 ?_
  refine lv_topi (fun t_9 et_9 => ?_)
  rw [ei_9, nI_clamp (by omega)] at et_9
  obtain rfl : t_4 = t_9 := et_4.trans et_9.symm
  have hFc := mA_free (a := a) hS hA hAc
  refine va_calli (va_runV (As := [.int t_2, .int t_4]) (rest := []) ⟨hx, hb, hml, hown, hts⟩ (c_X6_told l dC dI cI cZ cS cC cJ a v_5 H.size t_2 t_4 hD j (by omega) hB.self hL) (cwV 2 hts (gV (fun w h => h) kw_t4_44 kw_t4_45 kw_t4_46 kw_t1_7 kw_t4_47) rfl rfl rfl (by decide +kernel) ⟨Nat.le_of_ble_eq_true rfl, Nat.le_of_ble_eq_true rfl⟩) ⟨fun av U g mk q => by obtain ⟨q0, q1, qP, qK, qN⟩ := q; exact ⟨q0, q1, qP, va_K.moved (u := U) (U := U.calling g mk av) (Vm.Alike.refl U.vm) qK, mN_same qN⟩, va_recv hK hP (ci := 6) (q0 := 45) rfl at_45, fun U hU hW => ⟨rfl, by rw [hU], by rw [hU]; exact hP, va_K.moved hW.alike hK, mN_warm hW hN⟩⟩ rfl rfl hl.1 rfl (lv_room (Nat.le_of_ble_eq_true rfl)) dL_law_588 ⟨by show (81 + j) + 0 ≤ 601024; omega, by show (10532 + 6 * j) + 0 ≤ 7293034; omega⟩) hS (fun q _ h => hFc q h) hFc (fun r_10 v_10 t H locs ht hvm hw_10 hP _ _ hS => ?_)
  have hP := kt_heap2 ht hP
  clear ht hFc
  have hP : va_P (dC, dI) vwCl (mW cI cZ cS cC cJ a v_10) H := hP
  have hX9 := hX9.r hw_10.1
  have hI := hI.rfr hw_10.1.fr
  have hB := hw_10.1.self
  have hL := hw_10.2
  refine lv_pop hx hb dL_law_591 rfl ?_
  refine lv_goto (tgt := 808) hx hb dL_law_592 (by decide) ?_
  refine W.widen (k := 81 + (j + 1)) (n := 10532 + 6 * (j + 1)) (by omega) (by omega) ?_
  exact hgo v_10 _ _ _ hP hS (lv_sub hl [0, 1, 2, 3, 4] rfl) hI (hB.up (by omega)) hL hX9

set_option maxHeartbeats 4000000 in
set_option maxRecDepth 100000 in
theorem law_case11 {p : Program} {l : Launch} {e : Env} {s : State} {m : MethodId} {below : List Frame} {meth : Method} {c : Code} {b L : Nat} {xs : Nat → Int32} {dC : Nat → ClassId} {dI : Nat → Nat → Nat} {cI cZ cS cC cJ : ClassId} {a : Nat → Nat} (hx : p.tables.exec = Jvm.exec) (hb : c.code = cL_law) (hr : meth.sig.returnType = ret) (hml : c.maxLocals = 7) (hown : s.vm.findClass RL = some m.cls) (hts : ∀ w ∈ WW, w.before #[Value.ref b] s = true) (hX : va_X b L xs s s.heap) (hbl : b < s.heap.size) (hlocks : meth.locks = false) (hA : ∀ q : Nat, s.heap.size ≤ q → (fun q : Nat => s.heap.size ≤ q) q) (hbA : ¬ (fun q : Nat => s.heap.size ≤ q) b) (hK : va_K (dC, dI) vwCl [(cI, .int), (cZ, .boolean), (cS, .object RX3), (cC, .object RX0), (cJ, .long)] s) (hN : mN s) (hD : mDD a) (hAc : ∀ c, c < 81 → (fun q : Nat => s.heap.size ≤ q) (a c)) (hL5 : L ≤ 2560) {j : Nat} {k : Int32} (ek : k = nI (5 * j)) (hj : 5 * j + 5 ≤ L) {v : Nat → Nat → Int32} {H : Heap} {locs : List Loc} {ls : Array Slot} (hP : va_P (dC, dI) vwCl (mW cI cZ cS cC cJ a v) H) (hS : va_S (fun q : Nat => s.heap.size ≤ q) s.heap H locs) (hl : lv_has ls 7 [(0, .ref b), (1, .ref (a 0)), (2, .ref (a 45)), (3, .ref (a 80)), (4, .int k)]) (hI : kI v v) (hB : rB j v v) (hL : rL v) (hX9 : xR v) (hgo : ∀ (v : Nat → Nat → Int32) (H : Heap) (locs : List Loc) (ls : Array Slot), va_P (dC, dI) vwCl (mW cI cZ cS cC cJ a v) H → va_S (fun q : Nat => s.heap.size ≤ q) s.heap H locs → lv_has ls 7 [(0, .ref b), (1, .ref (a 0)), (2, .ref (a 45)), (3, .ref (a 80)), (4, .int k)] → kI v v → rB (j + 1) v v → rL v → xR v → W p l e room_1 s m #[Value.ref b] below meth c H locs (81 + (j + 1)) (10532 + 6 * (j + 1)) (lw_Z below #[Value.ref b] s) (F0 m 808 ls [])) : W p l e room_1 s m #[Value.ref b] below meth c H locs (81 + j) (10532 + 6 * j) (lw_Z below #[Value.ref b] s) (F0 m 595 ls []) := by
  refine lv_aload_n hx hb dL_law_595 rfl (lv_at hl 1 rfl) ?_
  refine lv_aload_n hx hb dL_law_596 rfl (lv_at hl 0 rfl) ?_
  refine lv_iload hx hb dL_law_597 (lv_at hl 4 rfl) ?_
  refine lv_iconst (v := 1) hx hb dL_law_599 (by decide) ?_
  refine lv_iadd hx hb dL_law_600 ?_
  refine lv_topi (fun t_1 et_1 => ?_)
  have ei_2 : t_1 = nI (5 * j + 1) := by rw [et_1, ek]; exact nI_add _ 1
  refine va_sld hx hb hX hbl hbA hS (kt_inN ei_2 (by omega) (by omega)) dL_law_601 ?_
  refine lv_topi (fun t_2 et_2 => ?_)
  rw [ei_2, nI_clamp (by omega)] at et_2
  refine lv_aload_n hx hb dL_law_602 rfl (lv_at hl 0 rfl) ?_
  refine lv_iload hx hb dL_law_603 (lv_at hl 4 rfl) ?_
  refine lv_iconst (v := 2) hx hb dL_law_605 (by decide) ?_
  refine lv_iadd hx hb dL_law_606 ?_
  refine lv_topi (fun t_3 et_3 => ?_)
  have ei_4 : t_3 = nI (5 * j + 2) := by rw [et_3, ek]; exact nI_add _ 2
  refine va_sld hx hb hX hbl hbA hS (kt_inN ei_4 (by omega) (by omega)) dL_law_607 ?_
  refine lv_topi (fun t_4 et_4 => ?_)
  rw [ei_4, nI_clamp (by omega)] at et_4
  have hFc := mA_free (a := a) hS hA hAc
  refine va_calli (va_runV (As := [.int t_2, .int t_4]) (rest := []) ⟨hx, hb, hml, hown, hts⟩ (c_X5_has l dC dI cI cZ cS cC cJ a v H.size t_2 t_4 hD hI.self) (cwV 2 hts (gV (fun w h => h) kw_t2_160 kw_t2_161 kw_t2_162 kw_t1_1 kw_t2_163) rfl rfl rfl (by decide +kernel) ⟨Nat.le_of_ble_eq_true rfl, Nat.le_of_ble_eq_true rfl⟩) ⟨fun av U g mk q => by obtain ⟨q0, q1, qP, qK, qN⟩ := q; exact ⟨q0, q1, qP, va_K.moved (u := U) (U := U.calling g mk av) (Vm.Alike.refl U.vm) qK, mN_same qN⟩, va_recv hK hP (ci := 5) (q0 := 0) rfl at_0, fun U hU hW => ⟨rfl, by rw [hU], by rw [hU]; exact hP, va_K.moved hW.alike hK, mN_warm hW hN⟩⟩ rfl rfl hl.1 rfl (lv_room (Nat.le_of_ble_eq_true rfl)) dL_law_608 ⟨by show (81 + j) + 0 ≤ 601024; omega, by show (10532 + 6 * j) + 0 ≤ 7293034; omega⟩) hS (fun q _ h => hFc q h) hFc (fun r_5 v_5 t H locs ht hvm hw_5 hP _ _ hS => ?_)
  have hP := kt_heap2 ht hP
  clear ht hFc
  have hP : va_P (dC, dI) vwCl (mW cI cZ cS cC cJ a v_5) H := hP
  have hB := hB.kfr (fun c h9 _ => hw_5.fr c h9)
  have hL := hL.kfr (fun c h9 _ => hw_5.fr c h9)
  have hX9 := hX9.k hw_5
  have hI := hw_5.self
  refine lv_pop hx hb dL_law_611 rfl ?_
  refine lv_aload_n hx hb dL_law_612 rfl (lv_at hl 2 rfl) ?_
  refine lv_aload_n hx hb dL_law_613 rfl (lv_at hl 0 rfl) ?_
  refine lv_iload hx hb dL_law_614 (lv_at hl 4 rfl) ?_
  refine lv_iconst (v := 1) hx hb dL_law_616 (by decide) ?_
  refine lv_iadd hx hb dL_law_617 ?_
  refine lv_topi (fun t_6 et_6 => ?_)
  have ei_7 : t_6 = nI (5 * j + 1) := by rw [et_6, ek]; exact nI_add _ 1
  refine va_sld hx hb hX hbl hbA hS (kt_inN ei_7 (by omega) (by omega)) dL_law_618 ?_
  refine lv_topi (fun t_7 et_7 => ?_)
  rw [ei_7, nI_clamp (by omega)] at et_7
  obtain rfl : t_2 = t_7 := et_2.trans et_7.symm
  refine lv_aload_n hx hb dL_law_619 rfl (lv_at hl 0 rfl) ?_
  refine lv_iload hx hb dL_law_620 (lv_at hl 4 rfl) ?_
  refine lv_iconst (v := 2) hx hb dL_law_622 (by decide) ?_
  refine lv_iadd hx hb dL_law_623 ?_
  refine lv_topi (fun t_8 et_8 => ?_)
  have ei_9 : t_8 = nI (5 * j + 2) := by rw [et_8, ek]; exact nI_add _ 2
  refine va_sld hx hb hX hbl hbA hS (kt_inN ei_9 (by omega) (by omega)) dL_law_624 ?_
  refine lv_topi (fun t_9 et_9 => ?_)
  rw [ei_9, nI_clamp (by omega)] at et_9
  obtain rfl : t_4 = t_9 := et_4.trans et_9.symm
  have hFc := mA_free (a := a) hS hA hAc
  refine va_calli (va_runV (As := [.int t_2, .int t_4]) (rest := []) ⟨hx, hb, hml, hown, hts⟩ (c_X6_has l dC dI cI cZ cS cC cJ a v_5 H.size t_2 t_4 hD j (by omega) hB.self hL) (cwV 2 hts (gV (fun w h => h) kw_t4_57 kw_t4_58 kw_t4_59 kw_t1_7 kw_t4_60) rfl rfl rfl (by decide +kernel) ⟨Nat.le_of_ble_eq_true rfl, Nat.le_of_ble_eq_true rfl⟩) ⟨fun av U g mk q => by obtain ⟨q0, q1, qP, qK, qN⟩ := q; exact ⟨q0, q1, qP, va_K.moved (u := U) (U := U.calling g mk av) (Vm.Alike.refl U.vm) qK, mN_same qN⟩, va_recv hK hP (ci := 6) (q0 := 45) rfl at_45, fun U hU hW => ⟨rfl, by rw [hU], by rw [hU]; exact hP, va_K.moved hW.alike hK, mN_warm hW hN⟩⟩ rfl rfl hl.1 rfl (lv_room (Nat.le_of_ble_eq_true rfl)) dL_law_625 ⟨by show (81 + j) + 0 ≤ 601024; omega, by show (10532 + 6 * j) + 0 ≤ 7293034; omega⟩) hS (fun q _ h => hFc q h) hFc (fun r_10 v_10 t H locs ht hvm hw_10 hP _ _ hS => ?_)
  have hP := kt_heap2 ht hP
  clear ht hFc
  have hP : va_P (dC, dI) vwCl (mW cI cZ cS cC cJ a v_10) H := hP
  have hX9 := hX9.r hw_10.1
  have hI := hI.rfr hw_10.1.fr
  have hB := hw_10.1.self
  have hL := hw_10.2
  refine lv_pop hx hb dL_law_628 rfl ?_
  refine lv_goto (tgt := 808) hx hb dL_law_629 (by decide) ?_
  refine W.widen (k := 81 + (j + 1)) (n := 10532 + 6 * (j + 1)) (by omega) (by omega) ?_
  exact hgo v_10 _ _ _ hP hS (lv_sub hl [0, 1, 2, 3, 4] rfl) hI (hB.up (by omega)) hL hX9

set_option maxHeartbeats 4000000 in
set_option maxRecDepth 100000 in
theorem law_case12 {p : Program} {l : Launch} {e : Env} {s : State} {m : MethodId} {below : List Frame} {meth : Method} {c : Code} {b L : Nat} {xs : Nat → Int32} {dC : Nat → ClassId} {dI : Nat → Nat → Nat} {cI cZ cS cC cJ : ClassId} {a : Nat → Nat} (hx : p.tables.exec = Jvm.exec) (hb : c.code = cL_law) (hr : meth.sig.returnType = ret) (hml : c.maxLocals = 7) (hown : s.vm.findClass RL = some m.cls) (hts : ∀ w ∈ WW, w.before #[Value.ref b] s = true) (hX : va_X b L xs s s.heap) (hbl : b < s.heap.size) (hlocks : meth.locks = false) (hA : ∀ q : Nat, s.heap.size ≤ q → (fun q : Nat => s.heap.size ≤ q) q) (hbA : ¬ (fun q : Nat => s.heap.size ≤ q) b) (hK : va_K (dC, dI) vwCl [(cI, .int), (cZ, .boolean), (cS, .object RX3), (cC, .object RX0), (cJ, .long)] s) (hN : mN s) (hD : mDD a) (hAc : ∀ c, c < 81 → (fun q : Nat => s.heap.size ≤ q) (a c)) (hL5 : L ≤ 2560) {j : Nat} {k : Int32} (ek : k = nI (5 * j)) (hj : 5 * j + 5 ≤ L) {v : Nat → Nat → Int32} {H : Heap} {locs : List Loc} {ls : Array Slot} (hP : va_P (dC, dI) vwCl (mW cI cZ cS cC cJ a v) H) (hS : va_S (fun q : Nat => s.heap.size ≤ q) s.heap H locs) (hl : lv_has ls 7 [(0, .ref b), (1, .ref (a 0)), (2, .ref (a 45)), (3, .ref (a 80)), (4, .int k)]) (hI : kI v v) (hB : rB j v v) (hL : rL v) (hX9 : xR v) (hgo : ∀ (v : Nat → Nat → Int32) (H : Heap) (locs : List Loc) (ls : Array Slot), va_P (dC, dI) vwCl (mW cI cZ cS cC cJ a v) H → va_S (fun q : Nat => s.heap.size ≤ q) s.heap H locs → lv_has ls 7 [(0, .ref b), (1, .ref (a 0)), (2, .ref (a 45)), (3, .ref (a 80)), (4, .int k)] → kI v v → rB (j + 1) v v → rL v → xR v → W p l e room_1 s m #[Value.ref b] below meth c H locs (81 + (j + 1)) (10532 + 6 * (j + 1)) (lw_Z below #[Value.ref b] s) (F0 m 808 ls [])) : W p l e room_1 s m #[Value.ref b] below meth c H locs (81 + j) (10532 + 6 * j) (lw_Z below #[Value.ref b] s) (F0 m 632 ls []) := by
  refine lv_aload_n hx hb dL_law_632 rfl (lv_at hl 1 rfl) ?_
  refine lv_aload_n hx hb dL_law_633 rfl (lv_at hl 0 rfl) ?_
  refine lv_iload hx hb dL_law_634 (lv_at hl 4 rfl) ?_
  refine lv_iconst (v := 1) hx hb dL_law_636 (by decide) ?_
  refine lv_iadd hx hb dL_law_637 ?_
  refine lv_topi (fun t_1 et_1 => ?_)
  have ei_2 : t_1 = nI (5 * j + 1) := by rw [et_1, ek]; exact nI_add _ 1
  refine va_sld hx hb hX hbl hbA hS (kt_inN ei_2 (by omega) (by omega)) dL_law_638 ?_
  refine lv_topi (fun t_2 et_2 => ?_)
  rw [ei_2, nI_clamp (by omega)] at et_2
  refine lv_aload_n hx hb dL_law_639 rfl (lv_at hl 0 rfl) ?_
  refine lv_iload hx hb dL_law_640 (lv_at hl 4 rfl) ?_
  refine lv_iconst (v := 2) hx hb dL_law_642 (by decide) ?_
  refine lv_iadd hx hb dL_law_643 ?_
  refine lv_topi (fun t_3 et_3 => ?_)
  have ei_4 : t_3 = nI (5 * j + 2) := by rw [et_3, ek]; exact nI_add _ 2
  refine va_sld hx hb hX hbl hbA hS (kt_inN ei_4 (by omega) (by omega)) dL_law_644 ?_
  refine lv_topi (fun t_4 et_4 => ?_)
  rw [ei_4, nI_clamp (by omega)] at et_4
  refine lv_aload_n hx hb dL_law_645 rfl (lv_at hl 0 rfl) ?_
  refine lv_iload hx hb dL_law_646 (lv_at hl 4 rfl) ?_
  refine lv_iconst (v := 3) hx hb dL_law_648 (by decide) ?_
  refine lv_iadd hx hb dL_law_649 ?_
  refine lv_topi (fun t_5 et_5 => ?_)
  have ei_6 : t_5 = nI (5 * j + 3) := by rw [et_5, ek]; exact nI_add _ 3
  refine va_sld hx hb hX hbl hbA hS (kt_inN ei_6 (by omega) (by omega)) dL_law_650 ?_
  refine lv_topi (fun t_6 et_6 => ?_)
  rw [ei_6, nI_clamp (by omega)] at et_6
  have hFc := mA_free (a := a) hS hA hAc
  refine va_calli (va_runV (As := [.int t_2, .int t_4, .int t_6]) (rest := []) ⟨hx, hb, hml, hown, hts⟩ (c_X5_good l dC dI cI cZ cS cC cJ a v H.size t_2 t_4 t_6 hD hI.self) (cwV 3 hts (gV (fun w h => h) kw_t2_164 kw_t2_165 kw_t2_166 kw_t1_1 kw_t2_167) rfl rfl rfl (by decide +kernel) ⟨Nat.le_of_ble_eq_true rfl, Nat.le_of_ble_eq_true rfl⟩) ⟨fun av U g mk q => by obtain ⟨q0, q1, qP, qK, qN⟩ := q; exact ⟨q0, q1, qP, va_K.moved (u := U) (U := U.calling g mk av) (Vm.Alike.refl U.vm) qK, mN_same qN⟩, va_recv hK hP (ci := 5) (q0 := 0) rfl at_0, fun U hU hW => ⟨rfl, by rw [hU], by rw [hU]; exact hP, va_K.moved hW.alike hK, mN_warm hW hN⟩⟩ rfl rfl hl.1 rfl (lv_room (Nat.le_of_ble_eq_true rfl)) dL_law_651 ⟨by show (81 + j) + 0 ≤ 601024; omega, by show (10532 + 6 * j) + 0 ≤ 7293034; omega⟩) hS (fun q _ h => hFc q h) hFc (fun r_7 v_7 t H locs ht hvm hw_7 hP _ _ hS => ?_)
  have hP := kt_heap2 ht hP
  clear ht hFc
  have hP : va_P (dC, dI) vwCl (mW cI cZ cS cC cJ a v_7) H := hP
  have hB := hB.kfr (fun c h9 _ => hw_7.fr c h9)
  have hL := hL.kfr (fun c h9 _ => hw_7.fr c h9)
  have hX9 := hX9.k hw_7
  have hI := hw_7.self
  refine lv_pop hx hb dL_law_654 rfl ?_
  refine lv_aload_n hx hb dL_law_655 rfl (lv_at hl 2 rfl) ?_
  refine lv_aload_n hx hb dL_law_656 rfl (lv_at hl 0 rfl) ?_
  refine lv_iload hx hb dL_law_657 (lv_at hl 4 rfl) ?_
  refine lv_iconst (v := 1) hx hb dL_law_659 (by decide) ?_
  refine lv_iadd hx hb dL_law_660 ?_
  refine lv_topi (fun t_8 et_8 => ?_)
  have ei_9 : t_8 = nI (5 * j + 1) := by rw [et_8, ek]; exact nI_add _ 1
  refine va_sld hx hb hX hbl hbA hS (kt_inN ei_9 (by omega) (by omega)) dL_law_661 ?_
  refine lv_topi (fun t_9 et_9 => ?_)
  rw [ei_9, nI_clamp (by omega)] at et_9
  obtain rfl : t_2 = t_9 := et_2.trans et_9.symm
  refine lv_aload_n hx hb dL_law_662 rfl (lv_at hl 0 rfl) ?_
  refine lv_iload hx hb dL_law_663 (lv_at hl 4 rfl) ?_
  refine lv_iconst (v := 2) hx hb dL_law_665 (by decide) ?_
  refine lv_iadd hx hb dL_law_666 ?_
  refine lv_topi (fun t_10 et_10 => ?_)
  have ei_11 : t_10 = nI (5 * j + 2) := by rw [et_10, ek]; exact nI_add _ 2
  refine va_sld hx hb hX hbl hbA hS (kt_inN ei_11 (by omega) (by omega)) dL_law_667 ?_
  refine lv_topi (fun t_11 et_11 => ?_)
  rw [ei_11, nI_clamp (by omega)] at et_11
  obtain rfl : t_4 = t_11 := et_4.trans et_11.symm
  refine lv_aload_n hx hb dL_law_668 rfl (lv_at hl 0 rfl) ?_
  refine lv_iload hx hb dL_law_669 (lv_at hl 4 rfl) ?_
  refine lv_iconst (v := 3) hx hb dL_law_671 (by decide) ?_
  refine lv_iadd hx hb dL_law_672 ?_
  refine lv_topi (fun t_12 et_12 => ?_)
  have ei_13 : t_12 = nI (5 * j + 3) := by rw [et_12, ek]; exact nI_add _ 3
  refine va_sld hx hb hX hbl hbA hS (kt_inN ei_13 (by omega) (by omega)) dL_law_673 ?_
  refine lv_topi (fun t_13 et_13 => ?_)
  rw [ei_13, nI_clamp (by omega)] at et_13
  obtain rfl : t_6 = t_13 := et_6.trans et_13.symm
  have hFc := mA_free (a := a) hS hA hAc
  refine va_calli (va_runV (As := [.int t_2, .int t_4, .int t_6]) (rest := []) ⟨hx, hb, hml, hown, hts⟩ (c_X6_good l dC dI cI cZ cS cC cJ a v_7 H.size t_2 t_4 t_6 hD j (by omega) hB.self hL) (cwV 3 hts (gV (fun w h => h) kw_t4_61 kw_t4_62 kw_t4_63 kw_t1_7 kw_t4_64) rfl rfl rfl (by decide +kernel) ⟨Nat.le_of_ble_eq_true rfl, Nat.le_of_ble_eq_true rfl⟩) ⟨fun av U g mk q => by obtain ⟨q0, q1, qP, qK, qN⟩ := q; exact ⟨q0, q1, qP, va_K.moved (u := U) (U := U.calling g mk av) (Vm.Alike.refl U.vm) qK, mN_same qN⟩, va_recv hK hP (ci := 6) (q0 := 45) rfl at_45, fun U hU hW => ⟨rfl, by rw [hU], by rw [hU]; exact hP, va_K.moved hW.alike hK, mN_warm hW hN⟩⟩ rfl rfl hl.1 rfl (lv_room (Nat.le_of_ble_eq_true rfl)) dL_law_674 ⟨by show (81 + j) + 0 ≤ 601024; omega, by show (10532 + 6 * j) + 0 ≤ 7293034; omega⟩) hS (fun q _ h => hFc q h) hFc (fun r_14 v_14 t H locs ht hvm hw_14 hP _ _ hS => ?_)
  have hP := kt_heap2 ht hP
  clear ht hFc
  have hP : va_P (dC, dI) vwCl (mW cI cZ cS cC cJ a v_14) H := hP
  have hX9 := hX9.r hw_14.1
  have hI := hI.rfr hw_14.1.fr
  have hB := hw_14.1.self
  have hL := hw_14.2
  refine lv_pop hx hb dL_law_677 rfl ?_
  refine lv_goto (tgt := 808) hx hb dL_law_678 (by decide) ?_
  refine W.widen (k := 81 + (j + 1)) (n := 10532 + 6 * (j + 1)) (by omega) (by omega) ?_
  exact hgo v_14 _ _ _ hP hS (lv_sub hl [0, 1, 2, 3, 4] rfl) hI (hB.up (by omega)) hL hX9

set_option maxHeartbeats 4000000 in
set_option maxRecDepth 100000 in
theorem law_case13 {p : Program} {l : Launch} {e : Env} {s : State} {m : MethodId} {below : List Frame} {meth : Method} {c : Code} {b L : Nat} {xs : Nat → Int32} {dC : Nat → ClassId} {dI : Nat → Nat → Nat} {cI cZ cS cC cJ : ClassId} {a : Nat → Nat} (hx : p.tables.exec = Jvm.exec) (hb : c.code = cL_law) (hr : meth.sig.returnType = ret) (hml : c.maxLocals = 7) (hown : s.vm.findClass RL = some m.cls) (hts : ∀ w ∈ WW, w.before #[Value.ref b] s = true) (hX : va_X b L xs s s.heap) (hbl : b < s.heap.size) (hlocks : meth.locks = false) (hA : ∀ q : Nat, s.heap.size ≤ q → (fun q : Nat => s.heap.size ≤ q) q) (hbA : ¬ (fun q : Nat => s.heap.size ≤ q) b) (hK : va_K (dC, dI) vwCl [(cI, .int), (cZ, .boolean), (cS, .object RX3), (cC, .object RX0), (cJ, .long)] s) (hN : mN s) (hD : mDD a) (hAc : ∀ c, c < 81 → (fun q : Nat => s.heap.size ≤ q) (a c)) (hL5 : L ≤ 2560) {j : Nat} {k : Int32} (ek : k = nI (5 * j)) (hj : 5 * j + 5 ≤ L) {v : Nat → Nat → Int32} {H : Heap} {locs : List Loc} {ls : Array Slot} (hP : va_P (dC, dI) vwCl (mW cI cZ cS cC cJ a v) H) (hS : va_S (fun q : Nat => s.heap.size ≤ q) s.heap H locs) (hl : lv_has ls 7 [(0, .ref b), (1, .ref (a 0)), (2, .ref (a 45)), (3, .ref (a 80)), (4, .int k)]) (hI : kI v v) (hB : rB j v v) (hL : rL v) (hX9 : xR v) (hgo : ∀ (v : Nat → Nat → Int32) (H : Heap) (locs : List Loc) (ls : Array Slot), va_P (dC, dI) vwCl (mW cI cZ cS cC cJ a v) H → va_S (fun q : Nat => s.heap.size ≤ q) s.heap H locs → lv_has ls 7 [(0, .ref b), (1, .ref (a 0)), (2, .ref (a 45)), (3, .ref (a 80)), (4, .int k)] → kI v v → rB (j + 1) v v → rL v → xR v → W p l e room_1 s m #[Value.ref b] below meth c H locs (81 + (j + 1)) (10532 + 6 * (j + 1)) (lw_Z below #[Value.ref b] s) (F0 m 808 ls [])) : W p l e room_1 s m #[Value.ref b] below meth c H locs (81 + j) (10532 + 6 * j) (lw_Z below #[Value.ref b] s) (F0 m 681 ls []) := by
  refine lv_aload_n hx hb dL_law_681 rfl (lv_at hl 1 rfl) ?_
  refine lv_aload_n hx hb dL_law_682 rfl (lv_at hl 0 rfl) ?_
  refine lv_iload hx hb dL_law_683 (lv_at hl 4 rfl) ?_
  refine lv_iconst (v := 1) hx hb dL_law_685 (by decide) ?_
  refine lv_iadd hx hb dL_law_686 ?_
  refine lv_topi (fun t_1 et_1 => ?_)
  have ei_2 : t_1 = nI (5 * j + 1) := by rw [et_1, ek]; exact nI_add _ 1
  refine va_sld hx hb hX hbl hbA hS (kt_inN ei_2 (by omega) (by omega)) dL_law_687 ?_
  refine lv_topi (fun t_2 et_2 => ?_)
  rw [ei_2, nI_clamp (by omega)] at et_2
  have hFc := mA_free (a := a) hS hA hAc
  refine va_calli (va_runV (As := [.int t_2]) (rest := []) ⟨hx, hb, hml, hown, hts⟩ (c_X5_plan l dC dI cI cZ cS cC cJ a v H.size t_2 hD hI.self) (cwV 1 hts (gV (fun w h => h) kw_t2_168 kw_t2_169 kw_t2_170 kw_t1_1 kw_t2_171) rfl rfl rfl (by decide +kernel) ⟨Nat.le_of_ble_eq_true rfl, Nat.le_of_ble_eq_true rfl⟩) ⟨fun av U g mk q => by obtain ⟨q0, q1, qP, qK, qN⟩ := q; exact ⟨q0, q1, qP, va_K.moved (u := U) (U := U.calling g mk av) (Vm.Alike.refl U.vm) qK, mN_same qN⟩, va_recv hK hP (ci := 5) (q0 := 0) rfl at_0, fun U hU hW => ⟨rfl, by rw [hU], by rw [hU]; exact hP, va_K.moved hW.alike hK, mN_warm hW hN⟩⟩ rfl rfl hl.1 rfl (lv_room (Nat.le_of_ble_eq_true rfl)) dL_law_688 ⟨by show (81 + j) + 0 ≤ 601024; omega, by show (10532 + 6 * j) + 0 ≤ 7293034; omega⟩) hS (fun q _ h => hFc q h) hFc (fun r_3 v_3 t H locs ht hvm hw_3 hP _ _ hS => ?_)
  have hP := kt_heap2 ht hP
  clear ht hFc
  have hP : va_P (dC, dI) vwCl (mW cI cZ cS cC cJ a v_3) H := hP
  have hB := hB.kfr (fun c h9 _ => hw_3.fr c h9)
  have hL := hL.kfr (fun c h9 _ => hw_3.fr c h9)
  have hX9 := hX9.k hw_3
  have hI := hw_3.self
  refine lv_pop hx hb dL_law_691 rfl ?_
  refine lv_aload_n hx hb dL_law_692 rfl (lv_at hl 2 rfl) ?_
  refine lv_aload_n hx hb dL_law_693 rfl (lv_at hl 0 rfl) ?_
  refine lv_iload hx hb dL_law_694 (lv_at hl 4 rfl) ?_
  refine lv_iconst (v := 1) hx hb dL_law_696 (by decide) ?_
  refine lv_iadd hx hb dL_law_697 ?_
  refine lv_topi (fun t_4 et_4 => ?_)
  have ei_5 : t_4 = nI (5 * j + 1) := by rw [et_4, ek]; exact nI_add _ 1
  refine va_sld hx hb hX hbl hbA hS (kt_inN ei_5 (by omega) (by omega)) dL_law_698 ?_
  refine lv_topi (fun t_5 et_5 => ?_)
  rw [ei_5, nI_clamp (by omega)] at et_5
  obtain rfl : t_2 = t_5 := et_2.trans et_5.symm
  have hFc := mA_free (a := a) hS hA hAc
  refine va_calli (va_runV (As := [.int t_2]) (rest := []) ⟨hx, hb, hml, hown, hts⟩ (c_X6_plan l dC dI cI cZ cS cC cJ a v_3 H.size t_2 hD j (by omega) hB.self hL) (cwV 1 hts (gV (fun w h => h) kw_t3_195 kw_t3_196 kw_t3_197 kw_t1_7 kw_t3_198) rfl rfl rfl (by decide +kernel) ⟨Nat.le_of_ble_eq_true rfl, Nat.le_of_ble_eq_true rfl⟩) ⟨fun av U g mk q => by obtain ⟨q0, q1, qP, qK, qN⟩ := q; exact ⟨q0, q1, qP, va_K.moved (u := U) (U := U.calling g mk av) (Vm.Alike.refl U.vm) qK, mN_same qN⟩, va_recv hK hP (ci := 6) (q0 := 45) rfl at_45, fun U hU hW => ⟨rfl, by rw [hU], by rw [hU]; exact hP, va_K.moved hW.alike hK, mN_warm hW hN⟩⟩ rfl rfl hl.1 rfl (lv_room (Nat.le_of_ble_eq_true rfl)) dL_law_699 ⟨by show (81 + j) + 0 ≤ 601024; omega, by show (10532 + 6 * j) + 0 ≤ 7293034; omega⟩) hS (fun q _ h => hFc q h) hFc (fun r_6 v_6 t H locs ht hvm hw_6 hP _ _ hS => ?_)
  have hP := kt_heap2 ht hP
  clear ht hFc
  have hP : va_P (dC, dI) vwCl (mW cI cZ cS cC cJ a v_6) H := hP
  have hX9 := hX9.r hw_6.1
  have hI := hI.rfr hw_6.1.fr
  have hB := hw_6.1.self
  have hL := hw_6.2
  refine lv_pop hx hb dL_law_702 rfl ?_
  refine lv_goto (tgt := 808) hx hb dL_law_703 (by decide) ?_
  refine W.widen (k := 81 + (j + 1)) (n := 10532 + 6 * (j + 1)) (by omega) (by omega) ?_
  exact hgo v_6 _ _ _ hP hS (lv_sub hl [0, 1, 2, 3, 4] rfl) hI (hB.up (by omega)) hL hX9

set_option maxHeartbeats 4000000 in
set_option maxRecDepth 100000 in
theorem law_case14 {p : Program} {l : Launch} {e : Env} {s : State} {m : MethodId} {below : List Frame} {meth : Method} {c : Code} {b L : Nat} {xs : Nat → Int32} {dC : Nat → ClassId} {dI : Nat → Nat → Nat} {cI cZ cS cC cJ : ClassId} {a : Nat → Nat} (hx : p.tables.exec = Jvm.exec) (hb : c.code = cL_law) (hr : meth.sig.returnType = ret) (hml : c.maxLocals = 7) (hown : s.vm.findClass RL = some m.cls) (hts : ∀ w ∈ WW, w.before #[Value.ref b] s = true) (hX : va_X b L xs s s.heap) (hbl : b < s.heap.size) (hlocks : meth.locks = false) (hA : ∀ q : Nat, s.heap.size ≤ q → (fun q : Nat => s.heap.size ≤ q) q) (hbA : ¬ (fun q : Nat => s.heap.size ≤ q) b) (hK : va_K (dC, dI) vwCl [(cI, .int), (cZ, .boolean), (cS, .object RX3), (cC, .object RX0), (cJ, .long)] s) (hN : mN s) (hD : mDD a) (hAc : ∀ c, c < 81 → (fun q : Nat => s.heap.size ≤ q) (a c)) (hL5 : L ≤ 2560) {j : Nat} {k : Int32} (ek : k = nI (5 * j)) (hj : 5 * j + 5 ≤ L) {v : Nat → Nat → Int32} {H : Heap} {locs : List Loc} {ls : Array Slot} (hP : va_P (dC, dI) vwCl (mW cI cZ cS cC cJ a v) H) (hS : va_S (fun q : Nat => s.heap.size ≤ q) s.heap H locs) (hl : lv_has ls 7 [(0, .ref b), (1, .ref (a 0)), (2, .ref (a 45)), (3, .ref (a 80)), (4, .int k)]) (hI : kI v v) (hB : rB j v v) (hL : rL v) (hX9 : xR v) (hgo : ∀ (v : Nat → Nat → Int32) (H : Heap) (locs : List Loc) (ls : Array Slot), va_P (dC, dI) vwCl (mW cI cZ cS cC cJ a v) H → va_S (fun q : Nat => s.heap.size ≤ q) s.heap H locs → lv_has ls 7 [(0, .ref b), (1, .ref (a 0)), (2, .ref (a 45)), (3, .ref (a 80)), (4, .int k)] → kI v v → rB (j + 1) v v → rL v → xR v → W p l e room_1 s m #[Value.ref b] below meth c H locs (81 + (j + 1)) (10532 + 6 * (j + 1)) (lw_Z below #[Value.ref b] s) (F0 m 808 ls [])) : W p l e room_1 s m #[Value.ref b] below meth c H locs (81 + j) (10532 + 6 * j) (lw_Z below #[Value.ref b] s) (F0 m 706 ls []) := by
  refine lv_aload_n hx hb dL_law_706 rfl (lv_at hl 1 rfl) ?_
  refine lv_aload_n hx hb dL_law_707 rfl (lv_at hl 0 rfl) ?_
  refine lv_iload hx hb dL_law_708 (lv_at hl 4 rfl) ?_
  refine lv_iconst (v := 1) hx hb dL_law_710 (by decide) ?_
  refine lv_iadd hx hb dL_law_711 ?_
  refine lv_topi (fun t_1 et_1 => ?_)
  have ei_2 : t_1 = nI (5 * j + 1) := by rw [et_1, ek]; exact nI_add _ 1
  refine va_sld hx hb hX hbl hbA hS (kt_inN ei_2 (by omega) (by omega)) dL_law_712 ?_
  refine lv_topi (fun t_2 et_2 => ?_)
  rw [ei_2, nI_clamp (by omega)] at et_2
  refine lv_aload_n hx hb dL_law_713 rfl (lv_at hl 0 rfl) ?_
  refine lv_iload hx hb dL_law_714 (lv_at hl 4 rfl) ?_
  refine lv_iconst (v := 2) hx hb dL_law_716 (by decide) ?_
  refine lv_iadd hx hb dL_law_717 ?_
  refine lv_topi (fun t_3 et_3 => ?_)
  have ei_4 : t_3 = nI (5 * j + 2) := by rw [et_3, ek]; exact nI_add _ 2
  refine va_sld hx hb hX hbl hbA hS (kt_inN ei_4 (by omega) (by omega)) dL_law_718 ?_
  refine lv_topi (fun t_4 et_4 => ?_)
  rw [ei_4, nI_clamp (by omega)] at et_4
  have hFc := mA_free (a := a) hS hA hAc
  refine va_calli (va_runV (As := [.int t_2, .int t_4]) (rest := []) ⟨hx, hb, hml, hown, hts⟩ (c_X5_hangs l dC dI cI cZ cS cC cJ a v H.size t_2 t_4 hD hI.self) (cwV 2 hts (gV (fun w h => h) kw_t2_180 kw_t2_181 kw_t2_182 kw_t1_1 kw_t2_183) rfl rfl rfl (by decide +kernel) ⟨Nat.le_of_ble_eq_true rfl, Nat.le_of_ble_eq_true rfl⟩) ⟨fun av U g mk q => by obtain ⟨q0, q1, qP, qK, qN⟩ := q; exact ⟨q0, q1, qP, va_K.moved (u := U) (U := U.calling g mk av) (Vm.Alike.refl U.vm) qK, mN_same qN⟩, va_recv hK hP (ci := 5) (q0 := 0) rfl at_0, fun U hU hW => ⟨rfl, by rw [hU], by rw [hU]; exact hP, va_K.moved hW.alike hK, mN_warm hW hN⟩⟩ rfl rfl hl.1 rfl (lv_room (Nat.le_of_ble_eq_true rfl)) dL_law_719 ⟨by show (81 + j) + 0 ≤ 601024; omega, by show (10532 + 6 * j) + 0 ≤ 7293034; omega⟩) hS (fun q _ h => hFc q h) hFc (fun r_5 v_5 t H locs ht hvm hw_5 hP _ _ hS => ?_)
  have hP := kt_heap2 ht hP
  clear ht hFc
  have hP : va_P (dC, dI) vwCl (mW cI cZ cS cC cJ a v_5) H := hP
  have hB := hB.kfr (fun c h9 _ => hw_5.1.fr c h9)
  have hL := hL.kfr (fun c h9 _ => hw_5.1.fr c h9)
  have hX8 := hX9
  have hX9 := hX9.k hw_5.1
  have hI := hw_5.1.self
  refine lv_pop hx hb dL_law_722 rfl ?_
  refine lv_aload_n hx hb dL_law_723 rfl (lv_at hl 2 rfl) ?_
  refine lv_aload_n hx hb dL_law_724 rfl (lv_at hl 0 rfl) ?_
  refine lv_iload hx hb dL_law_725 (lv_at hl 4 rfl) ?_
  refine lv_iconst (v := 1) hx hb dL_law_727 (by decide) ?_
  refine lv_iadd hx hb dL_law_728 ?_
  refine lv_topi (fun t_6 et_6 => ?_)
  have ei_7 : t_6 = nI (5 * j + 1) := by rw [et_6, ek]; exact nI_add _ 1
  refine va_sld hx hb hX hbl hbA hS (kt_inN ei_7 (by omega) (by omega)) dL_law_729 ?_
  refine lv_topi (fun t_7 et_7 => ?_)
  rw [ei_7, nI_clamp (by omega)] at et_7
  obtain rfl : t_2 = t_7 := et_2.trans et_7.symm
  refine lv_aload_n hx hb dL_law_730 rfl (lv_at hl 0 rfl) ?_
  refine lv_iload hx hb dL_law_731 (lv_at hl 4 rfl) ?_
  refine lv_iconst (v := 2) hx hb dL_law_733 (by decide) ?_
  refine lv_iadd hx hb dL_law_734 ?_
  refine lv_topi (fun t_8 et_8 => ?_)
  have ei_9 : t_8 = nI (5 * j + 2) := by rw [et_8, ek]; exact nI_add _ 2
  refine va_sld hx hb hX hbl hbA hS (kt_inN ei_9 (by omega) (by omega)) dL_law_735 ?_
  refine lv_topi (fun t_9 et_9 => ?_)
  rw [ei_9, nI_clamp (by omega)] at et_9
  obtain rfl : t_4 = t_9 := et_4.trans et_9.symm
  have hFc := mA_free (a := a) hS hA hAc
  refine va_calli (va_runV (As := [.int t_2, .int t_4]) (rest := []) ⟨hx, hb, hml, hown, hts⟩ (c_X6_hangs l dC dI cI cZ cS cC cJ a v_5 H.size t_2 t_4 hD j (by omega) hB.self hL) (cwV 2 hts (gV (fun w h => h) kw_t3_191 kw_t3_192 kw_t3_193 kw_t1_7 kw_t3_194) rfl rfl rfl (by decide +kernel) ⟨Nat.le_of_ble_eq_true rfl, Nat.le_of_ble_eq_true rfl⟩) ⟨fun av U g mk q => by obtain ⟨q0, q1, qP, qK, qN⟩ := q; exact ⟨q0, q1, qP, va_K.moved (u := U) (U := U.calling g mk av) (Vm.Alike.refl U.vm) qK, mN_same qN⟩, va_recv hK hP (ci := 6) (q0 := 45) rfl at_45, fun U hU hW => ⟨rfl, by rw [hU], by rw [hU]; exact hP, va_K.moved hW.alike hK, mN_warm hW hN⟩⟩ rfl rfl hl.1 rfl (lv_room (Nat.le_of_ble_eq_true rfl)) dL_law_736 ⟨by show (81 + j) + 0 ≤ 601024; omega, by show (10532 + 6 * j) + 0 ≤ 7293034; omega⟩) hS (fun q _ h => hFc q h) hFc (fun r_10 v_10 t H locs ht hvm hw_10 hP _ _ hS => ?_)
  have hP := kt_heap2 ht hP
  clear ht hFc
  have hP : va_P (dC, dI) vwCl (mW cI cZ cS cC cJ a v_10) H := hP
  have hres9 := xR.hangsE hX8 hw_5.1 hw_5.2 hw_10.2.2
  have hX9 := hX9.r hw_10.1
  have hI := hI.rfr hw_10.1.fr
  have hB := hw_10.1.self
  have hL := hw_10.2.1
  refine lv_pop hx hb dL_law_739 rfl ?_
  refine lv_goto (tgt := 808) hx hb dL_law_740 (by decide) ?_
  refine W.widen (k := 81 + (j + 1)) (n := 10532 + 6 * (j + 1)) (by omega) (by omega) ?_
  exact hgo v_10 _ _ _ hP hS (lv_sub hl [0, 1, 2, 3, 4] rfl) hI (hB.up (by omega)) hL hX9

set_option maxHeartbeats 4000000 in
set_option maxRecDepth 100000 in
theorem law_case15 {p : Program} {l : Launch} {e : Env} {s : State} {m : MethodId} {below : List Frame} {meth : Method} {c : Code} {b L : Nat} {xs : Nat → Int32} {dC : Nat → ClassId} {dI : Nat → Nat → Nat} {cI cZ cS cC cJ : ClassId} {a : Nat → Nat} (hx : p.tables.exec = Jvm.exec) (hb : c.code = cL_law) (hr : meth.sig.returnType = ret) (hml : c.maxLocals = 7) (hown : s.vm.findClass RL = some m.cls) (hts : ∀ w ∈ WW, w.before #[Value.ref b] s = true) (hX : va_X b L xs s s.heap) (hbl : b < s.heap.size) (hlocks : meth.locks = false) (hA : ∀ q : Nat, s.heap.size ≤ q → (fun q : Nat => s.heap.size ≤ q) q) (hbA : ¬ (fun q : Nat => s.heap.size ≤ q) b) (hK : va_K (dC, dI) vwCl [(cI, .int), (cZ, .boolean), (cS, .object RX3), (cC, .object RX0), (cJ, .long)] s) (hN : mN s) (hD : mDD a) (hAc : ∀ c, c < 81 → (fun q : Nat => s.heap.size ≤ q) (a c)) (hL5 : L ≤ 2560) (hT : l.stackTraces = false) {sa : Nat} (hU0 : exU s) (hRs : vk_R RX5 191 exT sa s) (hZ1 : vx_Zq Bundle.tN "UNASSIGNED_STACK" Bundle.steD (fun q : Nat => s.heap.size ≤ q) s s.heap) (hZ2 : vx_Zq Bundle.tN "SUPPRESSED_SENTINEL" Bundle.listD (fun q : Nat => s.heap.size ≤ q) s s.heap) {j : Nat} {k : Int32} (ek : k = nI (5 * j)) (hj : 5 * j + 5 ≤ L) {v : Nat → Nat → Int32} {H : Heap} {locs : List Loc} {ls : Array Slot} (hP : va_P (dC, dI) vwCl (mW cI cZ cS cC cJ a v) H) (hS : va_S (fun q : Nat => s.heap.size ≤ q) s.heap H locs) (hl : lv_has ls 7 [(0, .ref b), (1, .ref (a 0)), (2, .ref (a 45)), (3, .ref (a 80)), (4, .int k)]) (hI : kI v v) (hB : rB j v v) (hL : rL v) (hX9 : xR v) (hgo : ∀ (v : Nat → Nat → Int32) (H : Heap) (locs : List Loc) (ls : Array Slot), va_P (dC, dI) vwCl (mW cI cZ cS cC cJ a v) H → va_S (fun q : Nat => s.heap.size ≤ q) s.heap H locs → lv_has ls 7 [(0, .ref b), (1, .ref (a 0)), (2, .ref (a 45)), (3, .ref (a 80)), (4, .int k)] → kI v v → rB (j + 1) v v → rL v → xR v → W p l e room_1 s m #[Value.ref b] below meth c H locs (81 + (j + 1)) (10532 + 6 * (j + 1)) (lw_Z below #[Value.ref b] s) (F0 m 808 ls [])) : W p l e room_1 s m #[Value.ref b] below meth c H locs (81 + j) (10532 + 6 * j) (lw_Z below #[Value.ref b] s) (F0 m 743 ls []) := by
  refine lv_aload_n hx hb dL_law_743 rfl (lv_at hl 1 rfl) ?_
  refine lv_aload_n hx hb dL_law_744 rfl (lv_at hl 0 rfl) ?_
  refine lv_iload hx hb dL_law_745 (lv_at hl 4 rfl) ?_
  refine lv_iconst (v := 1) hx hb dL_law_747 (by decide) ?_
  refine lv_iadd hx hb dL_law_748 ?_
  refine lv_topi (fun t_1 et_1 => ?_)
  have ei_2 : t_1 = nI (5 * j + 1) := by rw [et_1, ek]; exact nI_add _ 1
  refine va_sld hx hb hX hbl hbA hS (kt_inN ei_2 (by omega) (by omega)) dL_law_749 ?_
  refine lv_topi (fun t_2 et_2 => ?_)
  rw [ei_2, nI_clamp (by omega)] at et_2
  refine lv_aload_n hx hb dL_law_750 rfl (lv_at hl 0 rfl) ?_
  refine lv_iload hx hb dL_law_751 (lv_at hl 4 rfl) ?_
  refine lv_iconst (v := 2) hx hb dL_law_753 (by decide) ?_
  refine lv_iadd hx hb dL_law_754 ?_
  refine lv_topi (fun t_3 et_3 => ?_)
  have ei_4 : t_3 = nI (5 * j + 2) := by rw [et_3, ek]; exact nI_add _ 2
  refine va_sld hx hb hX hbl hbA hS (kt_inN ei_4 (by omega) (by omega)) dL_law_755 ?_
  refine lv_topi (fun t_4 et_4 => ?_)
  rw [ei_4, nI_clamp (by omega)] at et_4
  refine lv_aload_n hx hb dL_law_756 rfl (lv_at hl 3 rfl) ?_
  have hFc := mA_free (a := a) hS hA hAc
  refine va_calli (vx_runSW (As := [.ref (a 0), .int t_2, .int t_4, .ref (a 80)]) (rest := []) ⟨hx, hb, hml, hown, hts⟩ (c_L_turned l hT dC dI cI cZ cS cC cJ a v H.size sa t_2 t_4 hD hI) (vx_cwSW 4 hts (gS (fun w h => h) kw_t2_200 kw_t2_201 kw_t1_0 kw_t2_202) rfl rfl rfl (by decide +kernel) ⟨Nat.le_of_ble_eq_true rfl, Nat.le_of_ble_eq_true rfl⟩) ⟨fun av U g mk q => by obtain ⟨q0, q1, qP, qK, qN, qE0, qE1, qE2, qE3⟩ := q; exact ⟨q0, q1, qP, va_K.moved (u := U) (U := U.calling g mk av) (Vm.Alike.refl U.vm) qK, mN_same qN, exU.same rfl qE0, vk_R.same rfl qE1, vx_Zq.moved (u := U) (U := U.calling g mk av) (Vm.Alike.refl U.vm) qE2, vx_Zq.moved (u := U) (U := U.calling g mk av) (Vm.Alike.refl U.vm) qE3⟩, fun U hU hW => ⟨rfl, by rw [hU], by rw [hU]; exact hP, va_K.moved hW.alike hK, mN_warm hW hN, exU.warm hW hU0, vk_R.warm hW hRs, by rw [hU]; exact vx_Zq.moved hW.alike ((hZ1.kept hS.2.1).narrow hFc), by rw [hU]; exact vx_Zq.moved hW.alike ((hZ2.kept hS.2.1).narrow hFc)⟩⟩ rfl rfl hl.1 rfl (lv_room (Nat.le_of_ble_eq_true rfl)) dL_law_757 ⟨by show (81 + j) + 1 ≤ 601024; omega, by show (10532 + 6 * j) + 6 ≤ 7293034; omega⟩) hS (fun q _ h => hFc q h) hFc (fun r_5 v_5 t H locs ht hvm hw_5 hP _ _ hS => ?_)
  have hP := kt_heap2 ht hP
  have hP : va_P (dC, dI) vwCl (mW cI cZ cS cC cJ a v_5) H := hP
  have hI : kI v_5 v_5 := ⟨⟨⟨by rw [hw_5 0 (by decide)]; exact hI.sc, fun _ _ => rfl⟩, rfl⟩, rfl, rfl, rfl⟩
  have hX9 : xR v_5 := by unfold xR xR0; rw [hw_5 0 (by decide), hw_5 5 (by decide), hw_5 60 (by decide), hw_5 45 (by decide), hw_5 4 (by decide), hw_5 59 (by decide)]; exact hX9
  have hB := hB.kfr (fun c _ h => hw_5 c h)
  have hL := hL.kfr (fun c _ h => hw_5 c h)
  refine W.widen (k := 81 + (j + 1)) (n := 10532 + 6 * (j + 1)) (by omega) (by omega) ?_
  refine lv_istore (lv' := [(5, .int r_5), (0, .ref b), (1, .ref (a 0)), (2, .ref (a 45)), (3, .ref (a 80)), (4, .int k)]) hx hb dL_law_760 hl (by decide) rfl (fun ls hl => ?_)
  refine lv_aload_n hx hb dL_law_762 rfl (lv_at hl 3 rfl) ?_
  refine lv_aload_n hx hb dL_law_763 rfl (lv_at hl 1 rfl) ?_
  refine lv_iload hx hb dL_law_764 (lv_at hl 5 rfl) ?_
  refine lv_iconst (v := 1) hx hb dL_law_766 (by decide) ?_
  refine lv_iadd hx hb dL_law_767 ?_
  refine lv_topi (fun t_6 et_6 => ?_)
  have ei_7 : t_6 = nI (5 * j + 1) := by rw [et_6, ek]; exact nI_add _ 1
  refine va_sld hx hb hX hbl hbA hS (kt_inN ei_7 (by omega) (by omega)) dL_law_768 ?_
  refine lv_topi (fun t_7 et_7 => ?_)
  rw [ei_7, nI_clamp (by omega)] at et_7
  obtain rfl : t_2 = t_7 := et_2.trans et_7.symm
  refine lv_aload_n hx hb dL_law_769 rfl (lv_at hl 1 rfl) ?_
  refine lv_iload hx hb dL_law_770 (lv_at hl 5 rfl) ?_
  refine lv_iconst (v := 2) hx hb dL_law_772 (by decide) ?_
  refine lv_iadd hx hb dL_law_773 ?_
  refine lv_topi (fun t_8 et_8 => ?_)
  have ei_9 : t_8 = nI (5 * j + 2) := by rw [et_8, ek]; exact nI_add _ 2
  refine va_sld hx hb hX hbl hbA hS (kt_inN ei_9 (by omega) (by omega)) dL_law_774 ?_
  refine lv_topi (fun t_9 et_9 => ?_)
  rw [ei_9, nI_clamp (by omega)] at et_9
  obtain rfl : t_4 = t_9 := et_4.trans et_9.symm
  have hFc := mA_free (a := a) hS hA hAc
  refine va_calli (va_runV (As := [.int t_2, .int t_4]) (rest := []) ⟨hx, hb, hml, hown, hts⟩ (c_X6_turned l dC dI cI cZ cS cC cJ a v_5 H.size t_2 t_4 hD j (by omega) hB.self hL) (cwV 2 hts (gV (fun w h => h) kw_t4_65 kw_t4_66 kw_t4_67 kw_t1_7 kw_t4_68) rfl rfl rfl (by decide +kernel) ⟨Nat.le_of_ble_eq_true rfl, Nat.le_of_ble_eq_true rfl⟩) ⟨fun av U g mk q => by obtain ⟨q0, q1, qP, qK, qN⟩ := q; exact ⟨q0, q1, qP, va_K.moved (u := U) (U := U.calling g mk av) (Vm.Alike.refl U.vm) qK, mN_same qN⟩, va_recv hK hP (ci := 6) (q0 := 45) rfl at_45, fun U hU hW => ⟨rfl, by rw [hU], by rw [hU]; exact hP, va_K.moved hW.alike hK, mN_warm hW hN⟩⟩ rfl rfl hl.1 rfl (lv_room (Nat.le_of_ble_eq_true rfl)) dL_law_775 ⟨by show (81 + (j + 1)) + 0 ≤ 601024; omega, by show (10532 + 6 * (j + 1)) + 0 ≤ 7293034; omega⟩) hS (fun q _ h => hFc q h) hFc (fun r_10 v_10 t H locs ht hvm hw_10 hP _ _ hS => ?_)
  have hP := kt_heap2 ht hP
  clear ht hFc
  have hP : va_P (dC, dI) vwCl (mW cI cZ cS cC cJ a v_10) H := hP
  have hX9 := hX9.r hw_10.1
  have hI := hI.rfr hw_10.1.fr
  have hB := hw_10.1.self
  have hL := hw_10.2
  refine lv_istore (lv' := [(6, .int r_10), (5, .int r_5), (0, .ref b), (1, .ref (a 0)), (2, .ref (a 45)), (3, .ref (a 80)), (4, .int k)]) hx hb dL_law_778 hl (by decide) rfl (fun ls hl => ?_)
  refine lv_goto (tgt := 808) hx hb dL_law_780 (by decide) ?_
  exact hgo v_10 _ _ _ hP hS (lv_sub hl [2, 3, 4, 5, 6] rfl) hI (hB.up (by omega)) hL hX9

set_option maxHeartbeats 4000000 in
set_option maxRecDepth 100000 in
theorem law_case16 {p : Program} {l : Launch} {e : Env} {s : State} {m : MethodId} {below : List Frame} {meth : Method} {c : Code} {b L : Nat} {xs : Nat → Int32} {dC : Nat → ClassId} {dI : Nat → Nat → Nat} {cI cZ cS cC cJ : ClassId} {a : Nat → Nat} (hx : p.tables.exec = Jvm.exec) (hb : c.code = cL_law) (hr : meth.sig.returnType = ret) (hml : c.maxLocals = 7) (hown : s.vm.findClass RL = some m.cls) (hts : ∀ w ∈ WW, w.before #[Value.ref b] s = true) (hX : va_X b L xs s s.heap) (hbl : b < s.heap.size) (hlocks : meth.locks = false) (hA : ∀ q : Nat, s.heap.size ≤ q → (fun q : Nat => s.heap.size ≤ q) q) (hbA : ¬ (fun q : Nat => s.heap.size ≤ q) b) (hK : va_K (dC, dI) vwCl [(cI, .int), (cZ, .boolean), (cS, .object RX3), (cC, .object RX0), (cJ, .long)] s) (hN : mN s) (hD : mDD a) (hAc : ∀ c, c < 81 → (fun q : Nat => s.heap.size ≤ q) (a c)) (hL5 : L ≤ 2560) {j : Nat} {k : Int32} (ek : k = nI (5 * j)) (hj : 5 * j + 5 ≤ L) {v : Nat → Nat → Int32} {H : Heap} {locs : List Loc} {ls : Array Slot} (hP : va_P (dC, dI) vwCl (mW cI cZ cS cC cJ a v) H) (hS : va_S (fun q : Nat => s.heap.size ≤ q) s.heap H locs) (hl : lv_has ls 7 [(0, .ref b), (1, .ref (a 0)), (2, .ref (a 45)), (3, .ref (a 80)), (4, .int k)]) (hI : kI v v) (hB : rB j v v) (hL : rL v) (hX9 : xR v) (hgo : ∀ (v : Nat → Nat → Int32) (H : Heap) (locs : List Loc) (ls : Array Slot), va_P (dC, dI) vwCl (mW cI cZ cS cC cJ a v) H → va_S (fun q : Nat => s.heap.size ≤ q) s.heap H locs → lv_has ls 7 [(0, .ref b), (1, .ref (a 0)), (2, .ref (a 45)), (3, .ref (a 80)), (4, .int k)] → kI v v → rB (j + 1) v v → rL v → xR v → W p l e room_1 s m #[Value.ref b] below meth c H locs (81 + (j + 1)) (10532 + 6 * (j + 1)) (lw_Z below #[Value.ref b] s) (F0 m 808 ls [])) : W p l e room_1 s m #[Value.ref b] below meth c H locs (81 + j) (10532 + 6 * j) (lw_Z below #[Value.ref b] s) (F0 m 783 ls []) := by
  refine lv_aload_n hx hb dL_law_783 rfl (lv_at hl 1 rfl) ?_
  refine lv_aload_n hx hb dL_law_784 rfl (lv_at hl 0 rfl) ?_
  refine lv_iload hx hb dL_law_785 (lv_at hl 4 rfl) ?_
  refine lv_iconst (v := 1) hx hb dL_law_787 (by decide) ?_
  refine lv_iadd hx hb dL_law_788 ?_
  refine lv_topi (fun t_1 et_1 => ?_)
  have ei_2 : t_1 = nI (5 * j + 1) := by rw [et_1, ek]; exact nI_add _ 1
  refine va_sld hx hb hX hbl hbA hS (kt_inN ei_2 (by omega) (by omega)) dL_law_789 ?_
  refine lv_topi (fun t_2 et_2 => ?_)
  rw [ei_2, nI_clamp (by omega)] at et_2
  have hFc := mA_free (a := a) hS hA hAc
  refine va_calli (va_runV (As := [.int t_2]) (rest := []) ⟨hx, hb, hml, hown, hts⟩ (c_X5_count l dC dI cI cZ cS cC cJ a v H.size t_2 hD hI.self) (cwV 1 hts (gV (fun w h => h) kw_t2_184 kw_t2_185 kw_t2_186 kw_t1_1 kw_t2_187) rfl rfl rfl (by decide +kernel) ⟨Nat.le_of_ble_eq_true rfl, Nat.le_of_ble_eq_true rfl⟩) ⟨fun av U g mk q => by obtain ⟨q0, q1, qP, qK, qN⟩ := q; exact ⟨q0, q1, qP, va_K.moved (u := U) (U := U.calling g mk av) (Vm.Alike.refl U.vm) qK, mN_same qN⟩, va_recv hK hP (ci := 5) (q0 := 0) rfl at_0, fun U hU hW => ⟨rfl, by rw [hU], by rw [hU]; exact hP, va_K.moved hW.alike hK, mN_warm hW hN⟩⟩ rfl rfl hl.1 rfl (lv_room (Nat.le_of_ble_eq_true rfl)) dL_law_790 ⟨by show (81 + j) + 0 ≤ 601024; omega, by show (10532 + 6 * j) + 0 ≤ 7293034; omega⟩) hS (fun q _ h => hFc q h) hFc (fun r_3 v_3 t H locs ht hvm hw_3 hP _ _ hS => ?_)
  have hP := kt_heap2 ht hP
  clear ht hFc
  have hP : va_P (dC, dI) vwCl (mW cI cZ cS cC cJ a v_3) H := hP
  have hB := hB.kfr (fun c h9 _ => hw_3.fr c h9)
  have hL := hL.kfr (fun c h9 _ => hw_3.fr c h9)
  have hX9 := hX9.k hw_3
  have hI := hw_3.self
  refine lv_pop hx hb dL_law_793 rfl ?_
  refine lv_aload_n hx hb dL_law_794 rfl (lv_at hl 2 rfl) ?_
  refine lv_aload_n hx hb dL_law_795 rfl (lv_at hl 0 rfl) ?_
  refine lv_iload hx hb dL_law_796 (lv_at hl 4 rfl) ?_
  refine lv_iconst (v := 1) hx hb dL_law_798 (by decide) ?_
  refine lv_iadd hx hb dL_law_799 ?_
  refine lv_topi (fun t_4 et_4 => ?_)
  have ei_5 : t_4 = nI (5 * j + 1) := by rw [et_4, ek]; exact nI_add _ 1
  refine va_sld hx hb hX hbl hbA hS (kt_inN ei_5 (by omega) (by omega)) dL_law_800 ?_
  refine lv_topi (fun t_5 et_5 => ?_)
  rw [ei_5, nI_clamp (by omega)] at et_5
  obtain rfl : t_2 = t_5 := et_2.trans et_5.symm
  have hFc := mA_free (a := a) hS hA hAc
  refine va_calli (va_runV (As := [.int t_2]) (rest := []) ⟨hx, hb, hml, hown, hts⟩ (c_X6_count l dC dI cI cZ cS cC cJ a v_3 H.size t_2 hD j (by omega) hB.self hL) (cwV 1 hts (gV (fun w h => h) kw_t4_69 kw_t4_70 kw_t4_71 kw_t1_7 kw_t4_72) rfl rfl rfl (by decide +kernel) ⟨Nat.le_of_ble_eq_true rfl, Nat.le_of_ble_eq_true rfl⟩) ⟨fun av U g mk q => by obtain ⟨q0, q1, qP, qK, qN⟩ := q; exact ⟨q0, q1, qP, va_K.moved (u := U) (U := U.calling g mk av) (Vm.Alike.refl U.vm) qK, mN_same qN⟩, va_recv hK hP (ci := 6) (q0 := 45) rfl at_45, fun U hU hW => ⟨rfl, by rw [hU], by rw [hU]; exact hP, va_K.moved hW.alike hK, mN_warm hW hN⟩⟩ rfl rfl hl.1 rfl (lv_room (Nat.le_of_ble_eq_true rfl)) dL_law_801 ⟨by show (81 + j) + 0 ≤ 601024; omega, by show (10532 + 6 * j) + 0 ≤ 7293034; omega⟩) hS (fun q _ h => hFc q h) hFc (fun r_6 v_6 t H locs ht hvm hw_6 hP _ _ hS => ?_)
  have hP := kt_heap2 ht hP
  clear ht hFc
  have hP : va_P (dC, dI) vwCl (mW cI cZ cS cC cJ a v_6) H := hP
  have hX9 := hX9.r hw_6.1
  have hI := hI.rfr hw_6.1.fr
  have hB := hw_6.1.self
  have hL := hw_6.2
  refine lv_pop hx hb dL_law_804 rfl ?_
  refine lv_goto (tgt := 808) hx hb dL_law_805 (by decide) ?_
  refine W.widen (k := 81 + (j + 1)) (n := 10532 + 6 * (j + 1)) (by omega) (by omega) ?_
  exact hgo v_6 _ _ _ hP hS (lv_sub hl [0, 1, 2, 3, 4] rfl) hI (hB.up (by omega)) hL hX9
