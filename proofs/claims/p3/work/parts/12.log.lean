set_option maxHeartbeats 4000000 in
set_option maxRecDepth 100000 in
theorem c_X1_markOver (l : Launch) (dC : Nat → ClassId) (dI : Nat → Nat → Nat) (cI cZ cS cC cJ : ClassId) (a : Nat → Nat) (v : Nat → Nat → Int32) (sz : Nat) (p0 p1 : Int32) (hD : mDD a) (hI : kI v v) : Met l yX1_markOver (Cond.code yX1_markOver cX1_markOver 3 none :: WW) ({ frames := 1, cells := 0, slots := 0, locals := 30 }) (va_Pc [.ref (a 7), .int p0, .int p1] (fun U => U.heap.size = sz ∧ va_P (dC, dI) vwCl (mW cI cZ cS cC cJ a v) U.heap ∧ va_K (dC, dI) vwCl [(cI, .int), (cZ, .boolean), (cS, .object RX3), (cC, .object RX0), (cJ, .long)] U ∧ mN U)) (va_Qv (fun (u : Nat → Nat → Int32) => kI v u) (fun (u : Nat → Nat → Int32) (t : State) => va_P (dC, dI) vwCl (mW cI cZ cS cC cJ a u) t.heap) (mA a sz)) 0 0 (mA a sz) := by
  refine Met.ofW (cc := cX1_markOver) (maxL := 3) (ret := none) (by decide) rfl ?_
  intro p e s m args below meth c s₁ B hml hv
  obtain ⟨rfl, hsz, hP, hK, hN⟩ := hv
  have hx := B.exec
  have hb := B.bytes
  have hr := B.returns
  have hts := atoms_spec (ws := Cond.code yX1_markOver cX1_markOver 3 none :: WW) B.pre
  have hown : s.vm.findClass RX1 = some m.cls := findClass_of_methodNamed B.named
  have hlocks := B.notSynchronized
  subst hsz
  have hAc : ∀ c, c < 81 → mA a s.heap.size (a c) := fun c h => Or.inl ⟨c, h, rfl⟩
  have hA : ∀ q : Nat, s.heap.size ≤ q → mA a s.heap.size q := fun q h => Or.inr h
  generalize hAe : mA a s.heap.size = A at hAc hA ⊢
  have hS : va_S A s.heap s.heap [] := va_S.rf
  have hl := lv_entry ([.ref (a 7), .int p0, .int p1]) (n := 3) (Nat.le_of_ble_eq_true rfl)
  rw [lg_entry_eq]
  generalize (lg_sl ([.ref (a 7), .int p0, .int p1]) ++ List.replicate (3 - (lg_sl ([.ref (a 7), .int p0, .int p1])).length) Slot.unset).toArray = ls at hl ⊢
  have hl : lv_has ls 3 [(0, .ref (a 7)), (1, .int p0), (2, .int p1)] := hl
  refine lv_aload_n hx hb dX1_markOver_0 rfl (lv_at hl 0 rfl) ?_
  refine lv_iload_n hx hb dX1_markOver_1 rfl (lv_at hl 1 rfl) ?_
  have hFc := mA_free (a := a) hS hA hAc
  refine va_calli (va_runV (As := [.int p0]) (rest := []) ⟨hx, hb, hml, hown, hts⟩ (c_X1_isKept l dC dI cI cZ cS cC cJ a v s.heap.size p0 hD hI.self) (cwV 1 hts (gV (fun w h => List.mem_cons_of_mem _ h) kw_t2_22 kw_t2_23 kw_t2_24 kw_t1_4 kw_t2_25) rfl rfl rfl (by decide +kernel) ⟨Nat.le_of_ble_eq_true rfl, Nat.le_of_ble_eq_true rfl⟩) ⟨fun av U g mk q => by obtain ⟨q0, q1, qP, qK, qN⟩ := q; exact ⟨q0, q1, qP, va_K.moved (u := U) (U := U.calling g mk av) (Vm.Alike.refl U.vm) qK, mN_same qN⟩, va_recv hK hP (ci := 1) (q0 := 7) rfl at_7, fun U hU hW => ⟨rfl, by rw [hU], by rw [hU]; exact hP, va_K.moved hW.alike hK, mN_warm hW hN⟩⟩ rfl rfl hl.1 rfl (lv_room (Nat.le_of_ble_eq_true rfl)) dX1_markOver_2 ⟨Nat.le_of_ble_eq_true rfl, Nat.le_of_ble_eq_true rfl⟩) hS (fun q _ h => hFc q h) hFc (fun r_1 _ t H locs ht hvm hw_1 hP _ _ hS => ?_)
  have hP := kt_heap2 ht hP
  clear ht hFc
  have hP : va_P (dC, dI) vwCl (mW cI cZ cS cC cJ a v) H := hP
  rcases hw_1 with hk_2 | ⟨hk_2, ha_2, hb_2⟩
  · subst hk_2
    refine lv_if_eq (tgt := 19) hx hb dX1_markOver_5 (by decide) (fun c_3 => ?_) (fun c_3 => absurd (by decide) c_3)
    exact W.vret hx hb hr (fun t ht hW => ⟨⟨v, rfl, hI, kt_heap ht hP⟩, hS.F ht⟩) hS.2.2 dX1_markOver_19
  · subst hk_2
    refine lv_if_eq (tgt := 19) hx hb dX1_markOver_5 (by decide) (fun c_4 => absurd c_4 (by decide)) (fun c_4 => ?_)
    refine lv_aload_n hx hb dX1_markOver_8 rfl (lv_at hl 0 rfl) ?_
    refine va_get (D := (dC, dI)) (ci := 1) (v := .ref (a 8)) (C := RX1) (T := TX1) (N := 2) hx hb hts (fun w h => List.mem_cons_of_mem _ (inWX1 w h)) hown hK hP 7 at_7 rfl 0 (by decide) (hts _ (List.mem_cons_of_mem _ kw_t1_60)) (fun _ h9 => h9) rfl dX1_markOver_9 ?_
    refine lv_iload_n hx hb dX1_markOver_12 rfl (lv_at hl 1 rfl) ?_
    refine lv_iconst (v := 5) hx hb dX1_markOver_13 (by decide) ?_
    refine lv_imul hx hb dX1_markOver_14 ?_
    refine lv_topi (fun t_5 et_5 => ?_)
    refine lv_iconst (v := 3) hx hb dX1_markOver_15 (by decide) ?_
    refine lv_iadd hx hb dX1_markOver_16 ?_
    refine lv_topi (fun t_6 et_6 => ?_)
    refine lv_iload_n hx hb dX1_markOver_17 rfl (lv_at hl 2 rfl) ?_
    refine va_iast hx hb hK hP (mD_of hD hAc) hS 8 0 at_8 rfl (kt_row ha_2 hb_2 3 (by decide) et_5 et_6) dX1_markOver_18 (fun H locs hP _ hS => ?_)
    obtain ⟨v_7, ev_7⟩ : ∃ z, z = mU v 8 (upd (v 8) ((t_6 : Int32).toNatClampNeg) p1) := ⟨_, rfl⟩
    have hP : va_P (dC, dI) vwCl (mW cI cZ cS cC cJ a v_7) H := by rw [ev_7]; exact mW_put hP (by omega) rfl
    have hI := hI.put ev_7 (by omega)
    exact W.vret hx hb hr (fun t ht hW => ⟨⟨v_7, rfl, hI, kt_heap ht hP⟩, hS.F ht⟩) hS.2.2 dX1_markOver_19

set_option maxHeartbeats 4000000 in
set_option maxRecDepth 100000 in
theorem c_X1_markStolen (l : Launch) (dC : Nat → ClassId) (dI : Nat → Nat → Nat) (cI cZ cS cC cJ : ClassId) (a : Nat → Nat) (v : Nat → Nat → Int32) (sz : Nat) (p0 : Int32) (hD : mDD a) (hI : kI v v) : Met l yX1_markStolen (Cond.code yX1_markStolen cX1_markStolen 2 none :: WW) ({ frames := 1, cells := 0, slots := 0, locals := 30 }) (va_Pc [.ref (a 7), .int p0] (fun U => U.heap.size = sz ∧ va_P (dC, dI) vwCl (mW cI cZ cS cC cJ a v) U.heap ∧ va_K (dC, dI) vwCl [(cI, .int), (cZ, .boolean), (cS, .object RX3), (cC, .object RX0), (cJ, .long)] U ∧ mN U)) (va_Qv (fun (u : Nat → Nat → Int32) => kI v u) (fun (u : Nat → Nat → Int32) (t : State) => va_P (dC, dI) vwCl (mW cI cZ cS cC cJ a u) t.heap) (mA a sz)) 0 0 (mA a sz) := by
  refine Met.ofW (cc := cX1_markStolen) (maxL := 2) (ret := none) (by decide) rfl ?_
  intro p e s m args below meth c s₁ B hml hv
  obtain ⟨rfl, hsz, hP, hK, hN⟩ := hv
  have hx := B.exec
  have hb := B.bytes
  have hr := B.returns
  have hts := atoms_spec (ws := Cond.code yX1_markStolen cX1_markStolen 2 none :: WW) B.pre
  have hown : s.vm.findClass RX1 = some m.cls := findClass_of_methodNamed B.named
  have hlocks := B.notSynchronized
  subst hsz
  have hAc : ∀ c, c < 81 → mA a s.heap.size (a c) := fun c h => Or.inl ⟨c, h, rfl⟩
  have hA : ∀ q : Nat, s.heap.size ≤ q → mA a s.heap.size q := fun q h => Or.inr h
  generalize hAe : mA a s.heap.size = A at hAc hA ⊢
  have hS : va_S A s.heap s.heap [] := va_S.rf
  have hl := lv_entry ([.ref (a 7), .int p0]) (n := 2) (Nat.le_of_ble_eq_true rfl)
  rw [lg_entry_eq]
  generalize (lg_sl ([.ref (a 7), .int p0]) ++ List.replicate (2 - (lg_sl ([.ref (a 7), .int p0])).length) Slot.unset).toArray = ls at hl ⊢
  have hl : lv_has ls 2 [(0, .ref (a 7)), (1, .int p0)] := hl
  refine lv_aload_n hx hb dX1_markStolen_0 rfl (lv_at hl 0 rfl) ?_
  refine lv_iload_n hx hb dX1_markStolen_1 rfl (lv_at hl 1 rfl) ?_
  have hFc := mA_free (a := a) hS hA hAc
  refine va_calli (va_runV (As := [.int p0]) (rest := []) ⟨hx, hb, hml, hown, hts⟩ (c_X1_isKept l dC dI cI cZ cS cC cJ a v s.heap.size p0 hD hI.self) (cwV 1 hts (gV (fun w h => List.mem_cons_of_mem _ h) kw_t2_22 kw_t2_23 kw_t2_24 kw_t1_4 kw_t2_25) rfl rfl rfl (by decide +kernel) ⟨Nat.le_of_ble_eq_true rfl, Nat.le_of_ble_eq_true rfl⟩) ⟨fun av U g mk q => by obtain ⟨q0, q1, qP, qK, qN⟩ := q; exact ⟨q0, q1, qP, va_K.moved (u := U) (U := U.calling g mk av) (Vm.Alike.refl U.vm) qK, mN_same qN⟩, va_recv hK hP (ci := 1) (q0 := 7) rfl at_7, fun U hU hW => ⟨rfl, by rw [hU], by rw [hU]; exact hP, va_K.moved hW.alike hK, mN_warm hW hN⟩⟩ rfl rfl hl.1 rfl (lv_room (Nat.le_of_ble_eq_true rfl)) dX1_markStolen_2 ⟨Nat.le_of_ble_eq_true rfl, Nat.le_of_ble_eq_true rfl⟩) hS (fun q _ h => hFc q h) hFc (fun r_1 _ t H locs ht hvm hw_1 hP _ _ hS => ?_)
  have hP := kt_heap2 ht hP
  clear ht hFc
  have hP : va_P (dC, dI) vwCl (mW cI cZ cS cC cJ a v) H := hP
  rcases hw_1 with hk_2 | ⟨hk_2, ha_2, hb_2⟩
  · subst hk_2
    refine lv_if_eq (tgt := 19) hx hb dX1_markStolen_5 (by decide) (fun c_3 => ?_) (fun c_3 => absurd (by decide) c_3)
    exact W.vret hx hb hr (fun t ht hW => ⟨⟨v, rfl, hI, kt_heap ht hP⟩, hS.F ht⟩) hS.2.2 dX1_markStolen_19
  · subst hk_2
    refine lv_if_eq (tgt := 19) hx hb dX1_markStolen_5 (by decide) (fun c_4 => absurd c_4 (by decide)) (fun c_4 => ?_)
    refine lv_aload_n hx hb dX1_markStolen_8 rfl (lv_at hl 0 rfl) ?_
    refine va_get (D := (dC, dI)) (ci := 1) (v := .ref (a 8)) (C := RX1) (T := TX1) (N := 2) hx hb hts (fun w h => List.mem_cons_of_mem _ (inWX1 w h)) hown hK hP 7 at_7 rfl 0 (by decide) (hts _ (List.mem_cons_of_mem _ kw_t1_60)) (fun _ h9 => h9) rfl dX1_markStolen_9 ?_
    refine lv_iload_n hx hb dX1_markStolen_12 rfl (lv_at hl 1 rfl) ?_
    refine lv_iconst (v := 5) hx hb dX1_markStolen_13 (by decide) ?_
    refine lv_imul hx hb dX1_markStolen_14 ?_
    refine lv_topi (fun t_5 et_5 => ?_)
    refine lv_iconst (v := 4) hx hb dX1_markStolen_15 (by decide) ?_
    refine lv_iadd hx hb dX1_markStolen_16 ?_
    refine lv_topi (fun t_6 et_6 => ?_)
    refine lv_iconst (v := 1) hx hb dX1_markStolen_17 (by decide) ?_
    refine va_iast hx hb hK hP (mD_of hD hAc) hS 8 0 at_8 rfl (kt_row ha_2 hb_2 4 (by decide) et_5 et_6) dX1_markStolen_18 (fun H locs hP _ hS => ?_)
    obtain ⟨v_7, ev_7⟩ : ∃ z, z = mU v 8 (upd (v 8) ((t_6 : Int32).toNatClampNeg) 1) := ⟨_, rfl⟩
    have hP : va_P (dC, dI) vwCl (mW cI cZ cS cC cJ a v_7) H := by rw [ev_7]; exact mW_put hP (by omega) rfl
    have hI := hI.put ev_7 (by omega)
    exact W.vret hx hb hr (fun t ht hW => ⟨⟨v_7, rfl, hI, kt_heap ht hP⟩, hS.F ht⟩) hS.2.2 dX1_markStolen_19

set_option maxHeartbeats 4000000 in
set_option maxRecDepth 100000 in
theorem c_X1_add (l : Launch) (dC : Nat → ClassId) (dI : Nat → Nat → Nat) (cI cZ cS cC cJ : ClassId) (a : Nat → Nat) (v : Nat → Nat → Int32) (sz : Nat) (p0 p1 p2 p3 : Int32) (hD : mDD a) (hI : kI v v) : Met l yX1_add (Cond.code yX1_add cX1_add 7 (some .int) :: WW) ({ frames := 1, cells := 0, slots := 0, locals := 30 }) (va_Pc [.ref (a 7), .int p0, .int p1, .int p2, .int p3] (fun U => U.heap.size = sz ∧ va_P (dC, dI) vwCl (mW cI cZ cS cC cJ a v) U.heap ∧ va_K (dC, dI) vwCl [(cI, .int), (cZ, .boolean), (cS, .object RX3), (cC, .object RX0), (cJ, .long)] U ∧ mN U)) (va_Qi (fun (r : Int32) (u : Nat → Nat → Int32) => kI v u) (fun (u : Nat → Nat → Int32) (t : State) => va_P (dC, dI) vwCl (mW cI cZ cS cC cJ a u) t.heap) (mA a sz)) 0 0 (mA a sz) := by
  refine Met.ofW (cc := cX1_add) (maxL := 7) (ret := (some .int)) (by decide) rfl ?_
  intro p e s m args below meth c s₁ B hml hv
  obtain ⟨rfl, hsz, hP, hK, hN⟩ := hv
  have hx := B.exec
  have hb := B.bytes
  have hr := B.returns
  have hts := atoms_spec (ws := Cond.code yX1_add cX1_add 7 (some .int) :: WW) B.pre
  have hown : s.vm.findClass RX1 = some m.cls := findClass_of_methodNamed B.named
  have hlocks := B.notSynchronized
  subst hsz
  have hAc : ∀ c, c < 81 → mA a s.heap.size (a c) := fun c h => Or.inl ⟨c, h, rfl⟩
  have hA : ∀ q : Nat, s.heap.size ≤ q → mA a s.heap.size q := fun q h => Or.inr h
  generalize hAe : mA a s.heap.size = A at hAc hA ⊢
  have hS : va_S A s.heap s.heap [] := va_S.rf
  have hl := lv_entry ([.ref (a 7), .int p0, .int p1, .int p2, .int p3]) (n := 7) (Nat.le_of_ble_eq_true rfl)
  rw [lg_entry_eq]
  generalize (lg_sl ([.ref (a 7), .int p0, .int p1, .int p2, .int p3]) ++ List.replicate (7 - (lg_sl ([.ref (a 7), .int p0, .int p1, .int p2, .int p3])).length) Slot.unset).toArray = ls at hl ⊢
  have hl : lv_has ls 7 [(0, .ref (a 7)), (1, .int p0), (2, .int p1), (3, .int p2), (4, .int p3)] := hl
  refine lv_aload_n hx hb dX1_add_0 rfl (lv_at hl 0 rfl) ?_
  refine va_get (D := (dC, dI)) (ci := 1) (v := .int (v 7 1)) (C := RX1) (T := TX1) (N := 2) hx hb hts (fun w h => List.mem_cons_of_mem _ (inWX1 w h)) hown hK hP 7 at_7 rfl 1 (by decide) (hts _ (List.mem_cons_of_mem _ kw_t1_62)) (fun _ h9 => h9) rfl dX1_add_1 ?_
  refine lv_topi (fun t_1 et_1 => ?_)
  refine lv_istore (lv' := [(5, .int t_1), (0, .ref (a 7)), (1, .int p0), (2, .int p1), (3, .int p2), (4, .int p3)]) hx hb dX1_add_4 hl (by decide) rfl (fun ls hl => ?_)
  refine lv_aload_n hx hb dX1_add_6 rfl (lv_at hl 1 rfl) ?_
  refine lv_dup hx hb dX1_add_7 rfl ?_
  refine va_get (D := (dC, dI)) (ci := 1) (v := .int (v 7 1)) (C := RX1) (T := TX1) (N := 2) hx hb hts (fun w h => List.mem_cons_of_mem _ (inWX1 w h)) hown hK hP 7 at_7 rfl 1 (by decide) (hts _ (List.mem_cons_of_mem _ kw_t1_62)) (fun _ h9 => h9) rfl dX1_add_8 ?_
  refine lv_topi (fun t_2 et_2 => ?_)
  obtain rfl : t_1 = t_2 := et_1.trans et_2.symm
  refine lv_iconst (v := 1) hx hb dX1_add_11 (by decide) ?_
  refine lv_iadd hx hb dX1_add_12 ?_
  refine lv_topi (fun t_3 et_3 => ?_)
  refine va_put (D := (dC, dI)) (ci := 1) (v := .int t_3) (ty := .int) (C := RX1) (T := TX1) (N := 2) hx hb hts (fun w h => List.mem_cons_of_mem _ (inWX1 w h)) tyX1 tyX1_ok nmX1 hown hK hP (mD_of hD hAc) hS 7 at_7 rfl 1 (by decide) (hts _ (List.mem_cons_of_mem _ kw_t1_62)) (fun _ h9 => h9) rfl (by decide +kernel) rfl rfl (Nat.le_of_ble_eq_true rfl) dX1_add_13 (fun H locs hP _ hS => ?_)
  obtain ⟨v_4, ev_4⟩ : ∃ z, z = mU v 7 (upd (v 7) 1 t_3) := ⟨_, rfl⟩
  have hP : va_P (dC, dI) vwCl (mW cI cZ cS cC cJ a v_4) H := by rw [ev_4]; exact mW_put hP (by omega) rfl
  have hI := hI.put ev_4 (by omega)
  refine lv_aload_n hx hb dX1_add_16 rfl (lv_at hl 1 rfl) ?_
  refine lv_iload hx hb dX1_add_17 (lv_at hl 0 rfl) ?_
  have hFc := mA_free (a := a) hS hA hAc
  refine va_calli (va_runV (As := [.int t_1]) (rest := []) ⟨hx, hb, hml, hown, hts⟩ (c_X1_isKept l dC dI cI cZ cS cC cJ a v_4 H.size t_1 hD hI.self) (cwV 1 hts (gV (fun w h => List.mem_cons_of_mem _ h) kw_t2_22 kw_t2_23 kw_t2_24 kw_t1_4 kw_t2_25) rfl rfl rfl (by decide +kernel) ⟨Nat.le_of_ble_eq_true rfl, Nat.le_of_ble_eq_true rfl⟩) ⟨fun av U g mk q => by obtain ⟨q0, q1, qP, qK, qN⟩ := q; exact ⟨q0, q1, qP, va_K.moved (u := U) (U := U.calling g mk av) (Vm.Alike.refl U.vm) qK, mN_same qN⟩, va_recv hK hP (ci := 1) (q0 := 7) rfl at_7, fun U hU hW => ⟨rfl, by rw [hU], by rw [hU]; exact hP, va_K.moved hW.alike hK, mN_warm hW hN⟩⟩ rfl rfl hl.1 rfl (lv_room (Nat.le_of_ble_eq_true rfl)) dX1_add_19 ⟨Nat.le_of_ble_eq_true rfl, Nat.le_of_ble_eq_true rfl⟩) hS (fun q _ h => hFc q h) hFc (fun r_5 _ t H locs ht hvm hw_5 hP _ _ hS => ?_)
  have hP := kt_heap2 ht hP
  clear ht hFc
  have hP : va_P (dC, dI) vwCl (mW cI cZ cS cC cJ a v_4) H := hP
  rcases hw_5 with hk_6 | ⟨hk_6, ha_6, hb_6⟩
  · subst hk_6
    refine lv_if_eq (tgt := 90) hx hb dX1_add_22 (by decide) (fun c_7 => ?_) (fun c_7 => absurd (by decide) c_7)
    refine lv_iload hx hb dX1_add_90 (lv_at hl 0 rfl) ?_
    exact W.iret (v := t_1) hx hb hr (fun t ht hW => ⟨⟨t_1, v_4, rfl, hI, kt_heap ht hP⟩, hS.F ht⟩) hS.2.2 dX1_add_92
  · subst hk_6
    refine lv_if_eq (tgt := 90) hx hb dX1_add_22 (by decide) (fun c_8 => absurd c_8 (by decide)) (fun c_8 => ?_)
    refine lv_iload hx hb dX1_add_25 (lv_at hl 0 rfl) ?_
    refine lv_iconst (v := 5) hx hb dX1_add_27 (by decide) ?_
    refine lv_imul hx hb dX1_add_28 ?_
    refine lv_topi (fun t_9 et_9 => ?_)
    refine lv_istore (lv' := [(6, .int t_9), (5, .int t_1), (0, .ref (a 7)), (1, .int p0), (2, .int p1), (3, .int p2), (4, .int p3)]) hx hb dX1_add_29 hl (by decide) rfl (fun ls hl => ?_)
    refine lv_aload_n hx hb dX1_add_31 rfl (lv_at hl 2 rfl) ?_
    refine va_get (D := (dC, dI)) (ci := 1) (v := .ref (a 8)) (C := RX1) (T := TX1) (N := 2) hx hb hts (fun w h => List.mem_cons_of_mem _ (inWX1 w h)) hown hK hP 7 at_7 rfl 0 (by decide) (hts _ (List.mem_cons_of_mem _ kw_t1_60)) (fun _ h9 => h9) rfl dX1_add_32 ?_
    refine lv_iload hx hb dX1_add_35 (lv_at hl 0 rfl) ?_
    refine lv_iconst (v := 0) hx hb dX1_add_37 (by decide) ?_
    refine lv_iadd hx hb dX1_add_38 ?_
    refine lv_topi (fun t_10 et_10 => ?_)
    refine lv_iload_n hx hb dX1_add_39 rfl (lv_at hl 3 rfl) ?_
    refine va_iast hx hb hK hP (mD_of hD hAc) hS 8 0 at_8 rfl (kt_row ha_6 hb_6 0 (by decide) et_9 et_10) dX1_add_40 (fun H locs hP _ hS => ?_)
    obtain ⟨v_11, ev_11⟩ : ∃ z, z = mU v_4 8 (upd (v_4 8) ((t_10 : Int32).toNatClampNeg) p0) := ⟨_, rfl⟩
    have hP : va_P (dC, dI) vwCl (mW cI cZ cS cC cJ a v_11) H := by rw [ev_11]; exact mW_put hP (by omega) rfl
    have hI := hI.put ev_11 (by omega)
    refine lv_aload_n hx hb dX1_add_41 rfl (lv_at hl 2 rfl) ?_
    refine va_get (D := (dC, dI)) (ci := 1) (v := .ref (a 8)) (C := RX1) (T := TX1) (N := 2) hx hb hts (fun w h => List.mem_cons_of_mem _ (inWX1 w h)) hown hK hP 7 at_7 rfl 0 (by decide) (hts _ (List.mem_cons_of_mem _ kw_t1_60)) (fun _ h9 => h9) rfl dX1_add_42 ?_
    refine lv_iload hx hb dX1_add_45 (lv_at hl 0 rfl) ?_
    refine lv_iconst (v := 1) hx hb dX1_add_47 (by decide) ?_
    refine lv_iadd hx hb dX1_add_48 ?_
    refine lv_topi (fun t_12 et_12 => ?_)
    refine lv_iload_n hx hb dX1_add_49 rfl (lv_at hl 4 rfl) ?_
    refine va_iast hx hb hK hP (mD_of hD hAc) hS 8 0 at_8 rfl (kt_row ha_6 hb_6 1 (by decide) et_9 et_12) dX1_add_50 (fun H locs hP _ hS => ?_)
    obtain ⟨v_13, ev_13⟩ : ∃ z, z = mU v_11 8 (upd (v_11 8) ((t_12 : Int32).toNatClampNeg) p1) := ⟨_, rfl⟩
    have hP : va_P (dC, dI) vwCl (mW cI cZ cS cC cJ a v_13) H := by rw [ev_13]; exact mW_put hP (by omega) rfl
    have hI := hI.put ev_13 (by omega)
    refine lv_aload_n hx hb dX1_add_51 rfl (lv_at hl 2 rfl) ?_
    refine va_get (D := (dC, dI)) (ci := 1) (v := .ref (a 8)) (C := RX1) (T := TX1) (N := 2) hx hb hts (fun w h => List.mem_cons_of_mem _ (inWX1 w h)) hown hK hP 7 at_7 rfl 0 (by decide) (hts _ (List.mem_cons_of_mem _ kw_t1_60)) (fun _ h9 => h9) rfl dX1_add_52 ?_
    refine lv_iload hx hb dX1_add_55 (lv_at hl 0 rfl) ?_
    refine lv_iconst (v := 2) hx hb dX1_add_57 (by decide) ?_
    refine lv_iadd hx hb dX1_add_58 ?_
    refine lv_topi (fun t_14 et_14 => ?_)
    refine lv_iload_n hx hb dX1_add_59 rfl (lv_at hl 5 rfl) ?_
    refine va_iast hx hb hK hP (mD_of hD hAc) hS 8 0 at_8 rfl (kt_row ha_6 hb_6 2 (by decide) et_9 et_14) dX1_add_60 (fun H locs hP _ hS => ?_)
    obtain ⟨v_15, ev_15⟩ : ∃ z, z = mU v_13 8 (upd (v_13 8) ((t_14 : Int32).toNatClampNeg) p2) := ⟨_, rfl⟩
    have hP : va_P (dC, dI) vwCl (mW cI cZ cS cC cJ a v_15) H := by rw [ev_15]; exact mW_put hP (by omega) rfl
    have hI := hI.put ev_15 (by omega)
    refine lv_aload_n hx hb dX1_add_61 rfl (lv_at hl 2 rfl) ?_
    refine va_get (D := (dC, dI)) (ci := 1) (v := .ref (a 8)) (C := RX1) (T := TX1) (N := 2) hx hb hts (fun w h => List.mem_cons_of_mem _ (inWX1 w h)) hown hK hP 7 at_7 rfl 0 (by decide) (hts _ (List.mem_cons_of_mem _ kw_t1_60)) (fun _ h9 => h9) rfl dX1_add_62 ?_
    refine lv_iload hx hb dX1_add_65 (lv_at hl 0 rfl) ?_
    refine lv_iconst (v := 3) hx hb dX1_add_67 (by decide) ?_
    refine lv_iadd hx hb dX1_add_68 ?_
    refine lv_topi (fun t_16 et_16 => ?_)
    refine lv_iconst (v := (-1)) hx hb dX1_add_69 (by decide) ?_
    refine va_iast hx hb hK hP (mD_of hD hAc) hS 8 0 at_8 rfl (kt_row ha_6 hb_6 3 (by decide) et_9 et_16) dX1_add_70 (fun H locs hP _ hS => ?_)
    obtain ⟨v_17, ev_17⟩ : ∃ z, z = mU v_15 8 (upd (v_15 8) ((t_16 : Int32).toNatClampNeg) (-1)) := ⟨_, rfl⟩
    have hP : va_P (dC, dI) vwCl (mW cI cZ cS cC cJ a v_17) H := by rw [ev_17]; exact mW_put hP (by omega) rfl
    have hI := hI.put ev_17 (by omega)
    refine lv_aload_n hx hb dX1_add_71 rfl (lv_at hl 2 rfl) ?_
    refine va_get (D := (dC, dI)) (ci := 1) (v := .ref (a 8)) (C := RX1) (T := TX1) (N := 2) hx hb hts (fun w h => List.mem_cons_of_mem _ (inWX1 w h)) hown hK hP 7 at_7 rfl 0 (by decide) (hts _ (List.mem_cons_of_mem _ kw_t1_60)) (fun _ h9 => h9) rfl dX1_add_72 ?_
    refine lv_iload hx hb dX1_add_75 (lv_at hl 0 rfl) ?_
    refine lv_iconst (v := 4) hx hb dX1_add_77 (by decide) ?_
    refine lv_iadd hx hb dX1_add_78 ?_
    refine lv_topi (fun t_18 et_18 => ?_)
    refine lv_iload hx hb dX1_add_79 (lv_at hl 6 rfl) ?_
    refine lv_if_eq (tgt := 88) hx hb dX1_add_81 (by decide) (fun c_19 => ?_) (fun c_19 => ?_)
    · refine lv_iconst (v := 0) hx hb dX1_add_88 (by decide) ?_
      refine va_iast hx hb hK hP (mD_of hD hAc) hS 8 0 at_8 rfl (kt_row ha_6 hb_6 4 (by decide) et_9 et_18) dX1_add_89 (fun H locs hP _ hS => ?_)
      obtain ⟨v_20, ev_20⟩ : ∃ z, z = mU v_17 8 (upd (v_17 8) ((t_18 : Int32).toNatClampNeg) 0) := ⟨_, rfl⟩
      have hP : va_P (dC, dI) vwCl (mW cI cZ cS cC cJ a v_20) H := by rw [ev_20]; exact mW_put hP (by omega) rfl
      have hI := hI.put ev_20 (by omega)
      refine lv_iload hx hb dX1_add_90 (lv_at hl 1 rfl) ?_
      exact W.iret (v := t_1) hx hb hr (fun t ht hW => ⟨⟨t_1, v_20, rfl, hI, kt_heap ht hP⟩, hS.F ht⟩) hS.2.2 dX1_add_92
    · refine lv_iconst (v := 1) hx hb dX1_add_84 (by decide) ?_
      refine lv_goto (tgt := 89) hx hb dX1_add_85 (by decide) ?_
      refine va_iast hx hb hK hP (mD_of hD hAc) hS 8 0 at_8 rfl (kt_row ha_6 hb_6 4 (by decide) et_9 et_18) dX1_add_89 (fun H locs hP _ hS => ?_)
      obtain ⟨v_21, ev_21⟩ : ∃ z, z = mU v_17 8 (upd (v_17 8) ((t_18 : Int32).toNatClampNeg) 1) := ⟨_, rfl⟩
      have hP : va_P (dC, dI) vwCl (mW cI cZ cS cC cJ a v_21) H := by rw [ev_21]; exact mW_put hP (by omega) rfl
      have hI := hI.put ev_21 (by omega)
      refine lv_iload hx hb dX1_add_90 (lv_at hl 1 rfl) ?_
      exact W.iret (v := t_1) hx hb hr (fun t ht hW => ⟨⟨t_1, v_21, rfl, hI, kt_heap ht hP⟩, hS.F ht⟩) hS.2.2 dX1_add_92
