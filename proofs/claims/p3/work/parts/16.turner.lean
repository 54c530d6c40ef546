set_option maxHeartbeats 4000000 in
set_option maxRecDepth 100000 in
theorem c_X5_isSecret (l : Launch) (dC : Nat → ClassId) (dI : Nat → Nat → Nat) (cI cZ cS cC cJ : ClassId) (a : Nat → Nat) (v : Nat → Nat → Int32) (sz : Nat) (p0 : Int32) (hD : mDD a) (hI : kI v v) : Met l yX5_isSecret (Cond.code yX5_isSecret cX5_isSecret 2 (some .boolean) :: WW) ({ frames := 0, cells := 0, slots := 0, locals := 0 }) (va_Pc [.ref (a 0), .int p0] (fun U => U.heap.size = sz ∧ va_P (dC, dI) vwCl (mW cI cZ cS cC cJ a v) U.heap ∧ va_K (dC, dI) vwCl [(cI, .int), (cZ, .boolean), (cS, .object RX3), (cC, .object RX0), (cJ, .long)] U ∧ mN U)) (va_Qi (fun (r : Int32) (_u : Unit) => ((r = 0 ∧ ¬ isS (v 0 5) p0) ∨ (r = 1 ∧ isS (v 0 5) p0 ∧ ∃ i, i < 12 ∧ p0 = nI i))) (fun (_ : Unit) (t : State) => va_P (dC, dI) vwCl (mW cI cZ cS cC cJ a v) t.heap) (mA a sz)) 0 0 (mA a sz) := by
  refine Met.ofW (cc := cX5_isSecret) (maxL := 2) (ret := (some .boolean)) (by decide) rfl ?_
  intro p e s m args below meth c s₁ B hml hv
  obtain ⟨rfl, hsz, hP, hK, hN⟩ := hv
  have hx := B.exec
  have hb := B.bytes
  have hr := B.returns
  have hts := atoms_spec (ws := Cond.code yX5_isSecret cX5_isSecret 2 (some .boolean) :: WW) B.pre
  have hown : s.vm.findClass RX5 = some m.cls := findClass_of_methodNamed B.named
  have hlocks := B.notSynchronized
  subst hsz
  have hAc : ∀ c, c < 81 → mA a s.heap.size (a c) := fun c h => Or.inl ⟨c, h, rfl⟩
  have hA : ∀ q : Nat, s.heap.size ≤ q → mA a s.heap.size q := fun q h => Or.inr h
  generalize hAe : mA a s.heap.size = A at hAc hA ⊢
  have hS : va_S A s.heap s.heap [] := va_S.rf
  have hl := lv_entry ([.ref (a 0), .int p0]) (n := 2) (Nat.le_of_ble_eq_true rfl)
  rw [lg_entry_eq]
  generalize (lg_sl ([.ref (a 0), .int p0]) ++ List.replicate (2 - (lg_sl ([.ref (a 0), .int p0])).length) Slot.unset).toArray = ls at hl ⊢
  have hl : lv_has ls 2 [(0, .ref (a 0)), (1, .int p0)] := hl
  refine lv_iload_n hx hb dX5_isSecret_0 rfl (lv_at hl 1 rfl) ?_
  refine lv_if_lt (tgt := 16) hx hb dX5_isSecret_1 (by decide) (fun c_1 => ?_) (fun c_1 => ?_)
  · refine lv_iconst (v := 0) hx hb dX5_isSecret_16 (by decide) ?_
    exact W.zret (v := 0) (ty := .boolean) hx hb hr rfl (fun t ht hW => ⟨⟨0, (), rfl, (Or.inl ⟨rfl, fun z9 => by have z8 := z9.1; have z7 := z9.2; have z0 := c_1; (try simp only [Int32.lt_iff_toInt_lt, Int32.le_iff_toInt_le, ← Int32.toInt_inj, L0, L1, L2, L3, L4, L6, L9, L500, L5, L7, L10, L12, L15, L16, L20, L63, L1000, L1023, L2000, L10000, L100000, Lm1] at z0); omega⟩), kt_heap ht hP⟩, hS.F ht⟩) hS.2.2 dX5_isSecret_17
  · refine lv_iload_n hx hb dX5_isSecret_4 rfl (lv_at hl 1 rfl) ?_
    refine lv_aload_n hx hb dX5_isSecret_5 rfl (lv_at hl 0 rfl) ?_
    refine va_get (D := (dC, dI)) (ci := 5) (v := .int (v 0 5)) (C := RX5) (T := TX5) (N := 11) hx hb hts (fun w h => List.mem_cons_of_mem _ (inWX5 w h)) hown hK hP 0 at_0 rfl 5 (by decide) (hts _ (List.mem_cons_of_mem _ kw_t1_162)) (fun _ h9 => h9) rfl dX5_isSecret_6 ?_
    refine lv_topi (fun t_2 et_2 => ?_)
    have hsc_2 : 0 ≤ t_2.toInt ∧ t_2.toInt ≤ 12 := by rw [et_2]; exact hI.sc
    refine lv_icmp_ge (tgt := 16) hx hb dX5_isSecret_9 (by decide) (fun c_3 => ?_) (fun c_3 => ?_)
    · refine lv_iconst (v := 0) hx hb dX5_isSecret_16 (by decide) ?_
      exact W.zret (v := 0) (ty := .boolean) hx hb hr rfl (fun t ht hW => ⟨⟨0, (), rfl, (Or.inl ⟨rfl, fun z9 => by have z8 := z9.1; have z7 := z9.2; rw [← et_2] at z7; have z0 := c_1; have z1 := c_3; have z2 := hsc_2; (try simp only [Int32.lt_iff_toInt_lt, Int32.le_iff_toInt_le, ← Int32.toInt_inj, L0, L1, L2, L3, L4, L6, L9, L500, L5, L7, L10, L12, L15, L16, L20, L63, L1000, L1023, L2000, L10000, L100000, Lm1] at z0 z1 z2); omega⟩), kt_heap ht hP⟩, hS.F ht⟩) hS.2.2 dX5_isSecret_17
    · refine lv_iconst (v := 1) hx hb dX5_isSecret_12 (by decide) ?_
      refine lv_goto (tgt := 17) hx hb dX5_isSecret_13 (by decide) ?_
      exact W.zret (v := 1) (ty := .boolean) hx hb hr rfl (fun t ht hW => ⟨⟨1, (), rfl, (Or.inr ⟨rfl, ⟨by have z0 := c_1; have z1 := c_3; have z2 := hsc_2; (try simp only [Int32.lt_iff_toInt_lt, Int32.le_iff_toInt_le, ← Int32.toInt_inj, L0, L1, L2, L3, L4, L6, L9, L500, L5, L7, L10, L12, L15, L16, L20, L63, L1000, L1023, L2000, L10000, L100000, Lm1] at z0 z1 z2); omega, by rw [← et_2]; have z0 := c_1; have z1 := c_3; have z2 := hsc_2; (try simp only [Int32.lt_iff_toInt_lt, Int32.le_iff_toInt_le, ← Int32.toInt_inj, L0, L1, L2, L3, L4, L6, L9, L500, L5, L7, L10, L12, L15, L16, L20, L63, L1000, L1023, L2000, L10000, L100000, Lm1] at z0 z1 z2); omega⟩, kt_idx (n := 12) (by have z0 := c_1; have z1 := c_3; have z2 := hsc_2; (try simp only [Int32.lt_iff_toInt_lt, Int32.le_iff_toInt_le, ← Int32.toInt_inj, L0, L1, L2, L3, L4, L6, L9, L500, L5, L7, L10, L12, L15, L16, L20, L63, L1000, L1023, L2000, L10000, L100000, Lm1] at z0 z1 z2); omega) (by have z0 := c_1; have z1 := c_3; have z2 := hsc_2; (try simp only [Int32.lt_iff_toInt_lt, Int32.le_iff_toInt_le, ← Int32.toInt_inj, L0, L1, L2, L3, L4, L6, L9, L500, L5, L7, L10, L12, L15, L16, L20, L63, L1000, L1023, L2000, L10000, L100000, Lm1] at z0 z1 z2); omega)⟩), kt_heap ht hP⟩, hS.F ht⟩) hS.2.2 dX5_isSecret_17

set_option maxHeartbeats 4000000 in
set_option maxRecDepth 100000 in
theorem c_X5_beginTurn (l : Launch) (dC : Nat → ClassId) (dI : Nat → Nat → Nat) (cI cZ cS cC cJ : ClassId) (a : Nat → Nat) (v : Nat → Nat → Int32) (sz : Nat) (p0 p1 : Int32) (hD : mDD a) (hI : kI v v) (hp : ∃ i, i < 12 ∧ p0 = nI i) : Met l yX5_beginTurn (Cond.code yX5_beginTurn cX5_beginTurn 4 none :: WW) ({ frames := 4, cells := 0, slots := 0, locals := 120 }) (va_Pc [.ref (a 0), .int p0, .int p1] (fun U => U.heap.size = sz ∧ va_P (dC, dI) vwCl (mW cI cZ cS cC cJ a v) U.heap ∧ va_K (dC, dI) vwCl [(cI, .int), (cZ, .boolean), (cS, .object RX3), (cC, .object RX0), (cJ, .long)] U ∧ mN U)) (va_Qv (fun (u : Nat → Nat → Int32) => kI v u) (fun (u : Nat → Nat → Int32) (t : State) => va_P (dC, dI) vwCl (mW cI cZ cS cC cJ a u) t.heap) (mA a sz)) 0 0 (mA a sz) := by
  refine Met.ofW (cc := cX5_beginTurn) (maxL := 4) (ret := none) (by decide) rfl ?_
  intro p e s m args below meth c s₁ B hml hv
  obtain ⟨rfl, hsz, hP, hK, hN⟩ := hv
  have hx := B.exec
  have hb := B.bytes
  have hr := B.returns
  have hts := atoms_spec (ws := Cond.code yX5_beginTurn cX5_beginTurn 4 none :: WW) B.pre
  have hown : s.vm.findClass RX5 = some m.cls := findClass_of_methodNamed B.named
  have hlocks := B.notSynchronized
  subst hsz
  have hAc : ∀ c, c < 81 → mA a s.heap.size (a c) := fun c h => Or.inl ⟨c, h, rfl⟩
  have hA : ∀ q : Nat, s.heap.size ≤ q → mA a s.heap.size q := fun q h => Or.inr h
  generalize hAe : mA a s.heap.size = A at hAc hA ⊢
  have hS : va_S A s.heap s.heap [] := va_S.rf
  have hl := lv_entry ([.ref (a 0), .int p0, .int p1]) (n := 4) (Nat.le_of_ble_eq_true rfl)
  rw [lg_entry_eq]
  generalize (lg_sl ([.ref (a 0), .int p0, .int p1]) ++ List.replicate (4 - (lg_sl ([.ref (a 0), .int p0, .int p1])).length) Slot.unset).toArray = ls at hl ⊢
  have hl : lv_has ls 4 [(0, .ref (a 0)), (1, .int p0), (2, .int p1)] := hl
  obtain ⟨i0, hi0, ei0⟩ := hp
  refine lv_aload_n hx hb dX5_beginTurn_0 rfl (lv_at hl 0 rfl) ?_
  refine va_get (D := (dC, dI)) (ci := 5) (v := .ref (a 1)) (C := RX5) (T := TX5) (N := 11) hx hb hts (fun w h => List.mem_cons_of_mem _ (inWX5 w h)) hown hK hP 0 at_0 rfl 0 (by decide) (hts _ (List.mem_cons_of_mem _ kw_t1_157)) (fun _ h9 => h9) rfl dX5_beginTurn_1 ?_
  refine lv_iload_n hx hb dX5_beginTurn_4 rfl (lv_at hl 1 rfl) ?_
  refine m_aldS hx hb hK hP ei0 hi0 dX5_beginTurn_5 ?_
  refine lv_aload_n hx hb dX5_beginTurn_6 rfl (lv_at hl 0 rfl) ?_
  refine va_get (D := (dC, dI)) (ci := 5) (v := .int (v 0 6)) (C := RX5) (T := TX5) (N := 11) hx hb hts (fun w h => List.mem_cons_of_mem _ (inWX5 w h)) hown hK hP 0 at_0 rfl 6 (by decide) (hts _ (List.mem_cons_of_mem _ kw_t1_163)) (fun _ h9 => h9) rfl dX5_beginTurn_7 ?_
  refine lv_topi (fun t_1 et_1 => ?_)
  have hFc := mA_free (a := a) hS hA hAc
  refine va_callv (va_runV (As := [.int t_1]) (rest := []) ⟨hx, hb, hml, hown, hts⟩ (c_X3_makeVersion l dC dI cI cZ cS cC cJ a v s.heap.size i0 hi0 t_1 hD hI.self) (cwV 1 hts (gV (fun w h => List.mem_cons_of_mem _ h) kw_t2_14 kw_t2_15 kw_t2_16 kw_t1_6 kw_t2_17) rfl rfl rfl (by decide +kernel) ⟨Nat.le_of_ble_eq_true rfl, Nat.le_of_ble_eq_true rfl⟩) ⟨fun av U g mk q => by obtain ⟨q0, q1, qP, qK, qN⟩ := q; exact ⟨q0, q1, qP, va_K.moved (u := U) (U := U.calling g mk av) (Vm.Alike.refl U.vm) qK, mN_same qN⟩, va_recv hK hP (ci := 3) (q0 := (10 + 3 * i0)) rfl (at_S hi0), fun U hU hW => ⟨rfl, by rw [hU], by rw [hU]; exact hP, va_K.moved hW.alike hK, mN_warm hW hN⟩⟩ rfl rfl hl.1 rfl (lv_room (Nat.le_of_ble_eq_true rfl)) dX5_beginTurn_10 ⟨Nat.le_of_ble_eq_true rfl, Nat.le_of_ble_eq_true rfl⟩) hS (fun q _ h => hFc q h) hFc (fun v_2 t H locs ht hvm hw_2 hP _ _ hS => ?_)
  have hP := kt_heap2 ht hP
  clear ht hFc
  have hP : va_P (dC, dI) vwCl (mW cI cZ cS cC cJ a v_2) H := hP
  have hI := hI.trans hw_2
  refine lv_aload_n hx hb dX5_beginTurn_13 rfl (lv_at hl 0 rfl) ?_
  refine va_get (D := (dC, dI)) (ci := 5) (v := .ref (a 7)) (C := RX5) (T := TX5) (N := 11) hx hb hts (fun w h => List.mem_cons_of_mem _ (inWX5 w h)) hown hK hP 0 at_0 rfl 4 (by decide) (hts _ (List.mem_cons_of_mem _ kw_t1_161)) (fun _ h9 => h9) rfl dX5_beginTurn_14 ?_
  refine lv_iload_n hx hb dX5_beginTurn_17 rfl (lv_at hl 1 rfl) ?_
  refine lv_aload_n hx hb dX5_beginTurn_18 rfl (lv_at hl 0 rfl) ?_
  refine va_get (D := (dC, dI)) (ci := 5) (v := .ref (a 1)) (C := RX5) (T := TX5) (N := 11) hx hb hts (fun w h => List.mem_cons_of_mem _ (inWX5 w h)) hown hK hP 0 at_0 rfl 0 (by decide) (hts _ (List.mem_cons_of_mem _ kw_t1_157)) (fun _ h9 => h9) rfl dX5_beginTurn_19 ?_
  refine lv_iload_n hx hb dX5_beginTurn_22 rfl (lv_at hl 1 rfl) ?_
  refine m_aldS hx hb hK hP ei0 hi0 dX5_beginTurn_23 ?_
  refine va_get (D := (dC, dI)) (ci := 3) (v := .int (v_2 (10 + 3 * i0) 4)) (C := RX3) (T := TX3) (N := 10) hx hb hts (fun w h => List.mem_cons_of_mem _ (inWX3 w h)) hown hK hP (10 + 3 * i0) (at_S hi0) rfl 4 (by decide) (hts _ (List.mem_cons_of_mem _ kw_t1_92)) (fun _ h9 => h9) rfl dX5_beginTurn_24 ?_
  refine lv_topi (fun t_3 et_3 => ?_)
  refine lv_aload_n hx hb dX5_beginTurn_27 rfl (lv_at hl 0 rfl) ?_
  refine va_get (D := (dC, dI)) (ci := 5) (v := .int (v_2 0 6)) (C := RX5) (T := TX5) (N := 11) hx hb hts (fun w h => List.mem_cons_of_mem _ (inWX5 w h)) hown hK hP 0 at_0 rfl 6 (by decide) (hts _ (List.mem_cons_of_mem _ kw_t1_163)) (fun _ h9 => h9) rfl dX5_beginTurn_28 ?_
  refine lv_topi (fun t_4 et_4 => ?_)
  refine lv_iload_n hx hb dX5_beginTurn_31 rfl (lv_at hl 2 rfl) ?_
  have hFc := mA_free (a := a) hS hA hAc
  refine va_calli (va_runV (As := [.int p0, .int t_3, .int t_4, .int p1]) (rest := []) ⟨hx, hb, hml, hown, hts⟩ (c_X1_add l dC dI cI cZ cS cC cJ a v_2 H.size p0 t_3 t_4 p1 hD hI.self) (cwV 4 hts (gV (fun w h => List.mem_cons_of_mem _ h) kw_t2_18 kw_t2_19 kw_t2_20 kw_t1_4 kw_t2_21) rfl rfl rfl (by decide +kernel) ⟨Nat.le_of_ble_eq_true rfl, Nat.le_of_ble_eq_true rfl⟩) ⟨fun av U g mk q => by obtain ⟨q0, q1, qP, qK, qN⟩ := q; exact ⟨q0, q1, qP, va_K.moved (u := U) (U := U.calling g mk av) (Vm.Alike.refl U.vm) qK, mN_same qN⟩, va_recv hK hP (ci := 1) (q0 := 7) rfl at_7, fun U hU hW => ⟨rfl, by rw [hU], by rw [hU]; exact hP, va_K.moved hW.alike hK, mN_warm hW hN⟩⟩ rfl rfl hl.1 rfl (lv_room (Nat.le_of_ble_eq_true rfl)) dX5_beginTurn_32 ⟨Nat.le_of_ble_eq_true rfl, Nat.le_of_ble_eq_true rfl⟩) hS (fun q _ h => hFc q h) hFc (fun r_5 v_5 t H locs ht hvm hw_5 hP _ _ hS => ?_)
  have hP := kt_heap2 ht hP
  clear ht hFc
  have hP : va_P (dC, dI) vwCl (mW cI cZ cS cC cJ a v_5) H := hP
  have hI := hI.trans hw_5
  refine lv_istore_n (lv' := [(3, .int r_5), (0, .ref (a 0)), (1, .int p0), (2, .int p1)]) hx hb dX5_beginTurn_35 rfl hl (by decide) rfl (fun ls hl => ?_)
  refine lv_aload_n hx hb dX5_beginTurn_36 rfl (lv_at hl 1 rfl) ?_
  refine va_get (D := (dC, dI)) (ci := 5) (v := .ref (a 2)) (C := RX5) (T := TX5) (N := 11) hx hb hts (fun w h => List.mem_cons_of_mem _ (inWX5 w h)) hown hK hP 0 at_0 rfl 1 (by decide) (hts _ (List.mem_cons_of_mem _ kw_t1_158)) (fun _ h9 => h9) rfl dX5_beginTurn_37 ?_
  refine lv_iload_n hx hb dX5_beginTurn_40 rfl (lv_at hl 2 rfl) ?_
  refine m_aldC hx hb hK hP ei0 hi0 dX5_beginTurn_41 ?_
  refine lv_iload_n hx hb dX5_beginTurn_42 rfl (lv_at hl 0 rfl) ?_
  refine lv_iload_n hx hb dX5_beginTurn_43 rfl (lv_at hl 3 rfl) ?_
  refine lv_aload_n hx hb dX5_beginTurn_44 rfl (lv_at hl 1 rfl) ?_
  refine va_get (D := (dC, dI)) (ci := 5) (v := .int (v_5 0 6)) (C := RX5) (T := TX5) (N := 11) hx hb hts (fun w h => List.mem_cons_of_mem _ (inWX5 w h)) hown hK hP 0 at_0 rfl 6 (by decide) (hts _ (List.mem_cons_of_mem _ kw_t1_163)) (fun _ h9 => h9) rfl dX5_beginTurn_45 ?_
  refine lv_topi (fun t_6 et_6 => ?_)
  refine lv_aload_n hx hb dX5_beginTurn_48 rfl (lv_at hl 1 rfl) ?_
  refine va_get (D := (dC, dI)) (ci := 5) (v := .ref (a 5)) (C := RX5) (T := TX5) (N := 11) hx hb hts (fun w h => List.mem_cons_of_mem _ (inWX5 w h)) hown hK hP 0 at_0 rfl 3 (by decide) (hts _ (List.mem_cons_of_mem _ kw_t1_160)) (fun _ h9 => h9) rfl dX5_beginTurn_49 ?_
  have hFc := mA_free (a := a) hS hA hAc
  refine va_callv (va_runV (As := [.int r_5, .int p1, .int t_6, .ref (a 5)]) (rest := []) ⟨hx, hb, hml, hown, hts⟩ (c_X0_start l dC dI cI cZ cS cC cJ a v_5 H.size i0 hi0 r_5 p1 t_6 hD hI.self) (cwV 4 hts (gV (fun w h => List.mem_cons_of_mem _ h) kw_t2_26 kw_t2_27 kw_t2_28 kw_t1_5 kw_t2_29) rfl rfl rfl (by decide +kernel) ⟨Nat.le_of_ble_eq_true rfl, Nat.le_of_ble_eq_true rfl⟩) ⟨fun av U g mk q => by obtain ⟨q0, q1, qP, qK, qN⟩ := q; exact ⟨q0, q1, qP, va_K.moved (u := U) (U := U.calling g mk av) (Vm.Alike.refl U.vm) qK, mN_same qN⟩, va_recv hK hP (ci := 0) (q0 := (9 + 3 * i0)) rfl (at_C hi0), fun U hU hW => ⟨rfl, by rw [hU], by rw [hU]; exact hP, va_K.moved hW.alike hK, mN_warm hW hN⟩⟩ rfl rfl hl.1 rfl (lv_room (Nat.le_of_ble_eq_true rfl)) dX5_beginTurn_52 ⟨Nat.le_of_ble_eq_true rfl, Nat.le_of_ble_eq_true rfl⟩) hS (fun q _ h => hFc q h) hFc (fun v_7 t H locs ht hvm hw_7 hP _ _ hS => ?_)
  have hP := kt_heap2 ht hP
  clear ht hFc
  have hP : va_P (dC, dI) vwCl (mW cI cZ cS cC cJ a v_7) H := hP
  have hI := hI.trans hw_7
  exact W.vret hx hb hr (fun t ht hW => ⟨⟨v_7, rfl, hI, kt_heap ht hP⟩, hS.F ht⟩) hS.2.2 dX5_beginTurn_55

set_option maxHeartbeats 4000000 in
set_option maxRecDepth 100000 in
theorem c_X5_isHeldUp (l : Launch) (dC : Nat → ClassId) (dI : Nat → Nat → Nat) (cI cZ cS cC cJ : ClassId) (a : Nat → Nat) (v : Nat → Nat → Int32) (sz : Nat) (p0 : Int32) (hD : mDD a) (hI : kI v v) (hp : ∃ i, i < 12 ∧ p0 = nI i) : Met l yX5_isHeldUp (Cond.code yX5_isHeldUp cX5_isHeldUp 4 (some .boolean) :: WW) ({ frames := 2, cells := 0, slots := 0, locals := 60 }) (va_Pc [.ref (a 0), .int p0] (fun U => U.heap.size = sz ∧ va_P (dC, dI) vwCl (mW cI cZ cS cC cJ a v) U.heap ∧ va_K (dC, dI) vwCl [(cI, .int), (cZ, .boolean), (cS, .object RX3), (cC, .object RX0), (cJ, .long)] U ∧ mN U)) (va_Qi (fun (r : Int32) (_u : Unit) => (r = 0 ∨ r = 1)) (fun (_ : Unit) (t : State) => va_P (dC, dI) vwCl (mW cI cZ cS cC cJ a v) t.heap) (mA a sz)) 0 0 (mA a sz) := by
  refine Met.ofW (cc := cX5_isHeldUp) (maxL := 4) (ret := (some .boolean)) (by decide) rfl ?_
  intro p e s m args below meth c s₁ B hml hv
  obtain ⟨rfl, hsz, hP, hK, hN⟩ := hv
  have hx := B.exec
  have hb := B.bytes
  have hr := B.returns
  have hts := atoms_spec (ws := Cond.code yX5_isHeldUp cX5_isHeldUp 4 (some .boolean) :: WW) B.pre
  have hown : s.vm.findClass RX5 = some m.cls := findClass_of_methodNamed B.named
  have hlocks := B.notSynchronized
  subst hsz
  have hAc : ∀ c, c < 81 → mA a s.heap.size (a c) := fun c h => Or.inl ⟨c, h, rfl⟩
  have hA : ∀ q : Nat, s.heap.size ≤ q → mA a s.heap.size q := fun q h => Or.inr h
  generalize hAe : mA a s.heap.size = A at hAc hA ⊢
  have hS : va_S A s.heap s.heap [] := va_S.rf
  have hl := lv_entry ([.ref (a 0), .int p0]) (n := 4) (Nat.le_of_ble_eq_true rfl)
  rw [lg_entry_eq]
  generalize (lg_sl ([.ref (a 0), .int p0]) ++ List.replicate (4 - (lg_sl ([.ref (a 0), .int p0])).length) Slot.unset).toArray = ls at hl ⊢
  have hl : lv_has ls 4 [(0, .ref (a 0)), (1, .int p0)] := hl
  obtain ⟨i0, hi0, ei0⟩ := hp
  refine kt_absQ (fun Q hQ9 => ?_)
  refine lv_iconst (v := 0) hx hb dX5_isHeldUp_0 (by decide) ?_
  refine lv_istore_n (lv' := [(2, .int 0), (0, .ref (a 0)), (1, .int p0)]) hx hb dX5_isHeldUp_1 rfl hl (by decide) rfl (fun ls hl => ?_)
  have key1 : ∀ (n i1 : Nat) (k1 : Int32) (H : Heap) (locs : List Loc) (ls : Array Slot), i1 ≤ 12 → 12 - i1 < n → k1 = nI i1 → va_P (dC, dI) vwCl (mW cI cZ cS cC cJ a v) H → va_S A s.heap H locs → lv_has ls 4 [(2, .int k1), (0, .ref (a 0)), (1, .int p0)] → W p l e (headSpec (Cond.code yX5_isHeldUp cX5_isHeldUp 4 (some .boolean) :: WW) ({ frames := 2, cells := 0, slots := 0, locals := 60 })).room s m ([.ref (a 0), .int p0] : List Value).toArray below meth c H locs 0 0 Q (F0 m 2 ls []) := by
    intro n
    induction n with
    | zero => intro i k H locs ls h1 h2; exact absurd h2 (by omega)
    | succ n ih1 =>
      intro i1 k1 H locs ls hi1 hin1 ek1 hP hS hl
      refine lv_iload_n hx hb dX5_isHeldUp_2 rfl (lv_at hl 0 rfl) ?_
      refine lv_aload_n hx hb dX5_isHeldUp_3 rfl (lv_at hl 1 rfl) ?_
      refine va_get (D := (dC, dI)) (ci := 5) (v := .int (v 0 5)) (C := RX5) (T := TX5) (N := 11) hx hb hts (fun w h => List.mem_cons_of_mem _ (inWX5 w h)) hown hK hP 0 at_0 rfl 5 (by decide) (hts _ (List.mem_cons_of_mem _ kw_t1_162)) (fun _ h9 => h9) rfl dX5_isHeldUp_4 ?_
      refine lv_topi (fun t_1 et_1 => ?_)
      have hsc_1 : 0 ≤ t_1.toInt ∧ t_1.toInt ≤ 12 := by rw [et_1]; exact hI.sc
      refine lv_icmp_ge (tgt := 69) hx hb dX5_isHeldUp_7 (by decide) (fun c_2 => ?_) (fun c_2 => ?_)
      · refine lv_iconst (v := 0) hx hb dX5_isHeldUp_69 (by decide) ?_
        rw [hQ9]
        exact W.zret (v := 0) (ty := .boolean) hx hb hr rfl (fun t ht hW => ⟨⟨0, (), rfl, (Or.inl rfl), kt_heap ht hP⟩, hS.F ht⟩) hS.2.2 dX5_isHeldUp_70
      · refine lv_iload_n hx hb dX5_isHeldUp_10 rfl (lv_at hl 0 rfl) ?_
        refine lv_iload_n hx hb dX5_isHeldUp_11 rfl (lv_at hl 2 rfl) ?_
        refine lv_icmp_eq (tgt := 39) hx hb dX5_isHeldUp_12 (by decide) (fun c_3 => ?_) (fun c_3 => ?_)
        · refine lv_iconst (v := 1) hx hb dX5_isHeldUp_39 (by decide) ?_
          refine lv_goto (tgt := 44) hx hb dX5_isHeldUp_40 (by decide) ?_
          refine lv_istore_n (lv' := [(3, .int 1), (2, .int k1), (0, .ref (a 0)), (1, .int p0)]) hx hb dX5_isHeldUp_44 rfl hl (by decide) rfl (fun ls hl => ?_)
          refine lv_iload_n hx hb dX5_isHeldUp_45 rfl (lv_at hl 0 rfl) ?_
          refine lv_if_eq (tgt := 63) hx hb dX5_isHeldUp_46 (by decide) (fun c_4 => absurd c_4 (by decide)) (fun c_4 => ?_)
          refine lv_aload_n hx hb dX5_isHeldUp_49 rfl (lv_at hl 2 rfl) ?_
          refine va_get (D := (dC, dI)) (ci := 5) (v := .ref (a 2)) (C := RX5) (T := TX5) (N := 11) hx hb hts (fun w h => List.mem_cons_of_mem _ (inWX5 w h)) hown hK hP 0 at_0 rfl 1 (by decide) (hts _ (List.mem_cons_of_mem _ kw_t1_158)) (fun _ h9 => h9) rfl dX5_isHeldUp_50 ?_
          refine lv_iload_n hx hb dX5_isHeldUp_53 rfl (lv_at hl 1 rfl) ?_
          have hi_5 : i1 < 12 := kt_lt12 hsc_1 ek1 hi1 c_2
          refine m_aldC hx hb hK hP ek1 hi_5 dX5_isHeldUp_54 ?_
          have hFc := mA_free (a := a) hS hA hAc
          refine va_calli (va_runV (As := []) (rest := []) ⟨hx, hb, hml, hown, hts⟩ (c_X0_goesOn l dC dI cI cZ cS cC cJ a v H.size i1 hi_5 hD hI.self) (cwV 0 hts (gV (fun w h => List.mem_cons_of_mem _ h) kw_t2_6 kw_t2_7 kw_t2_8 kw_t1_5 kw_t2_9) rfl rfl rfl (by decide +kernel) ⟨Nat.le_of_ble_eq_true rfl, Nat.le_of_ble_eq_true rfl⟩) ⟨fun av U g mk q => by obtain ⟨q0, q1, qP, qK, qN⟩ := q; exact ⟨q0, q1, qP, va_K.moved (u := U) (U := U.calling g mk av) (Vm.Alike.refl U.vm) qK, mN_same qN⟩, va_recv hK hP (ci := 0) (q0 := (9 + 3 * i1)) rfl (at_C hi_5), fun U hU hW => ⟨rfl, by rw [hU], by rw [hU]; exact hP, va_K.moved hW.alike hK, mN_warm hW hN⟩⟩ rfl rfl hl.1 rfl (lv_room (Nat.le_of_ble_eq_true rfl)) dX5_isHeldUp_55 ⟨Nat.le_of_ble_eq_true rfl, Nat.le_of_ble_eq_true rfl⟩) hS (fun q _ h => hFc q h) hFc (fun r_6 _ t H locs ht hvm hw_6 hP _ _ hS => ?_)
          have hP := kt_heap2 ht hP
          clear ht hFc
          have hP : va_P (dC, dI) vwCl (mW cI cZ cS cC cJ a v) H := hP
          refine lv_if_eq (tgt := 63) hx hb dX5_isHeldUp_58 (by decide) (fun c_7 => ?_) (fun c_7 => ?_)
          · obtain ⟨t_8, et_8⟩ : ∃ y : Int32, y = k1 + 1 := ⟨_, rfl⟩
            refine lv_iinc (v := t_8) (lv' := [(2, .int t_8), (3, .int 1), (0, .ref (a 0)), (1, .int p0)]) hx hb dX5_isHeldUp_63 hl (k := 1) rfl (by rw [et_8]; rfl) (by decide) rfl (fun ls hl => ?_)
            refine lv_goto (tgt := 2) hx hb dX5_isHeldUp_66 (by decide) ?_
            exact ih1 (i1 + 1) t_8 _ _ _ (by omega) (by omega) (by rw [et_8, ek1]; exact nI_1 i1) hP hS (lv_sub hl [0, 2, 3] rfl)
          · refine lv_iconst (v := 1) hx hb dX5_isHeldUp_61 (by decide) ?_
            rw [hQ9]
            exact W.zret (v := 1) (ty := .boolean) hx hb hr rfl (fun t ht hW => ⟨⟨1, (), rfl, (Or.inr rfl), kt_heap ht hP⟩, hS.F ht⟩) hS.2.2 dX5_isHeldUp_62
        · refine lv_aload_n hx hb dX5_isHeldUp_15 rfl (lv_at hl 1 rfl) ?_
          refine va_get (D := (dC, dI)) (ci := 5) (v := .ref (a 3)) (C := RX5) (T := TX5) (N := 11) hx hb hts (fun w h => List.mem_cons_of_mem _ (inWX5 w h)) hown hK hP 0 at_0 rfl 2 (by decide) (hts _ (List.mem_cons_of_mem _ kw_t1_159)) (fun _ h9 => h9) rfl dX5_isHeldUp_16 ?_
          refine lv_iload_n hx hb dX5_isHeldUp_19 rfl (lv_at hl 2 rfl) ?_
          refine lv_iload_n hx hb dX5_isHeldUp_20 rfl (lv_at hl 0 rfl) ?_
          have hFc := mA_free (a := a) hS hA hAc
          refine va_calli (va_runV (As := [.int p0, .int k1]) (rest := []) ⟨hx, hb, hml, hown, hts⟩ (c_X4_isReached l dC dI cI cZ cS cC cJ a v H.size p0 k1 hD hI.self i0 hi0 ei0) (cwV 2 hts (gV (fun w h => List.mem_cons_of_mem _ h) kw_t1_214 kw_t1_215 kw_t1_216 kw_t1_2 kw_t1_217) rfl rfl rfl (by decide +kernel) ⟨Nat.le_of_ble_eq_true rfl, Nat.le_of_ble_eq_true rfl⟩) ⟨fun av U g mk q => by obtain ⟨q0, q1, qP, qK, qN⟩ := q; exact ⟨q0, q1, qP, va_K.moved (u := U) (U := U.calling g mk av) (Vm.Alike.refl U.vm) qK, mN_same qN⟩, va_recv hK hP (ci := 4) (q0 := 3) rfl at_3, fun U hU hW => ⟨rfl, by rw [hU], by rw [hU]; exact hP, va_K.moved hW.alike hK, mN_warm hW hN⟩⟩ rfl rfl hl.1 rfl (lv_room (Nat.le_of_ble_eq_true rfl)) dX5_isHeldUp_21 ⟨Nat.le_of_ble_eq_true rfl, Nat.le_of_ble_eq_true rfl⟩) hS (fun q _ h => hFc q h) hFc (fun r_9 _ t H locs ht hvm hw_9 hP _ _ hS => ?_)
          have hP := kt_heap2 ht hP
          clear ht hFc
          have hP : va_P (dC, dI) vwCl (mW cI cZ cS cC cJ a v) H := hP
          refine lv_if_ne (tgt := 39) hx hb dX5_isHeldUp_24 (by decide) (fun c_10 => ?_) (fun c_10 => ?_)
          · refine lv_iconst (v := 1) hx hb dX5_isHeldUp_39 (by decide) ?_
            refine lv_goto (tgt := 44) hx hb dX5_isHeldUp_40 (by decide) ?_
            refine lv_istore_n (lv' := [(3, .int 1), (2, .int k1), (0, .ref (a 0)), (1, .int p0)]) hx hb dX5_isHeldUp_44 rfl hl (by decide) rfl (fun ls hl => ?_)
            refine lv_iload_n hx hb dX5_isHeldUp_45 rfl (lv_at hl 0 rfl) ?_
            refine lv_if_eq (tgt := 63) hx hb dX5_isHeldUp_46 (by decide) (fun c_11 => absurd c_11 (by decide)) (fun c_11 => ?_)
            refine lv_aload_n hx hb dX5_isHeldUp_49 rfl (lv_at hl 2 rfl) ?_
            refine va_get (D := (dC, dI)) (ci := 5) (v := .ref (a 2)) (C := RX5) (T := TX5) (N := 11) hx hb hts (fun w h => List.mem_cons_of_mem _ (inWX5 w h)) hown hK hP 0 at_0 rfl 1 (by decide) (hts _ (List.mem_cons_of_mem _ kw_t1_158)) (fun _ h9 => h9) rfl dX5_isHeldUp_50 ?_
            refine lv_iload_n hx hb dX5_isHeldUp_53 rfl (lv_at hl 1 rfl) ?_
            have hi_12 : i1 < 12 := kt_lt12 hsc_1 ek1 hi1 c_2
            refine m_aldC hx hb hK hP ek1 hi_12 dX5_isHeldUp_54 ?_
            have hFc := mA_free (a := a) hS hA hAc
            refine va_calli (va_runV (As := []) (rest := []) ⟨hx, hb, hml, hown, hts⟩ (c_X0_goesOn l dC dI cI cZ cS cC cJ a v H.size i1 hi_12 hD hI.self) (cwV 0 hts (gV (fun w h => List.mem_cons_of_mem _ h) kw_t2_6 kw_t2_7 kw_t2_8 kw_t1_5 kw_t2_9) rfl rfl rfl (by decide +kernel) ⟨Nat.le_of_ble_eq_true rfl, Nat.le_of_ble_eq_true rfl⟩) ⟨fun av U g mk q => by obtain ⟨q0, q1, qP, qK, qN⟩ := q; exact ⟨q0, q1, qP, va_K.moved (u := U) (U := U.calling g mk av) (Vm.Alike.refl U.vm) qK, mN_same qN⟩, va_recv hK hP (ci := 0) (q0 := (9 + 3 * i1)) rfl (at_C hi_12), fun U hU hW => ⟨rfl, by rw [hU], by rw [hU]; exact hP, va_K.moved hW.alike hK, mN_warm hW hN⟩⟩ rfl rfl hl.1 rfl (lv_room (Nat.le_of_ble_eq_true rfl)) dX5_isHeldUp_55 ⟨Nat.le_of_ble_eq_true rfl, Nat.le_of_ble_eq_true rfl⟩) hS (fun q _ h => hFc q h) hFc (fun r_13 _ t H locs ht hvm hw_13 hP _ _ hS => ?_)
            have hP := kt_heap2 ht hP
            clear ht hFc
            have hP : va_P (dC, dI) vwCl (mW cI cZ cS cC cJ a v) H := hP
            refine lv_if_eq (tgt := 63) hx hb dX5_isHeldUp_58 (by decide) (fun c_14 => ?_) (fun c_14 => ?_)
            · obtain ⟨t_15, et_15⟩ : ∃ y : Int32, y = k1 + 1 := ⟨_, rfl⟩
              refine lv_iinc (v := t_15) (lv' := [(2, .int t_15), (3, .int 1), (0, .ref (a 0)), (1, .int p0)]) hx hb dX5_isHeldUp_63 hl (k := 1) rfl (by rw [et_15]; rfl) (by decide) rfl (fun ls hl => ?_)
              refine lv_goto (tgt := 2) hx hb dX5_isHeldUp_66 (by decide) ?_
              exact ih1 (i1 + 1) t_15 _ _ _ (by omega) (by omega) (by rw [et_15, ek1]; exact nI_1 i1) hP hS (lv_sub hl [0, 2, 3] rfl)
            · refine lv_iconst (v := 1) hx hb dX5_isHeldUp_61 (by decide) ?_
              rw [hQ9]
              exact W.zret (v := 1) (ty := .boolean) hx hb hr rfl (fun t ht hW => ⟨⟨1, (), rfl, (Or.inr rfl), kt_heap ht hP⟩, hS.F ht⟩) hS.2.2 dX5_isHeldUp_62
          · refine lv_aload_n hx hb dX5_isHeldUp_27 rfl (lv_at hl 1 rfl) ?_
            refine va_get (D := (dC, dI)) (ci := 5) (v := .ref (a 3)) (C := RX5) (T := TX5) (N := 11) hx hb hts (fun w h => List.mem_cons_of_mem _ (inWX5 w h)) hown hK hP 0 at_0 rfl 2 (by decide) (hts _ (List.mem_cons_of_mem _ kw_t1_159)) (fun _ h9 => h9) rfl dX5_isHeldUp_28 ?_
            refine lv_iload_n hx hb dX5_isHeldUp_31 rfl (lv_at hl 0 rfl) ?_
            refine lv_iload_n hx hb dX5_isHeldUp_32 rfl (lv_at hl 2 rfl) ?_
            have hi_17 : i1 < 12 := kt_lt12 hsc_1 ek1 hi1 c_2
            have hFc := mA_free (a := a) hS hA hAc
            refine va_calli (va_runV (As := [.int k1, .int p0]) (rest := []) ⟨hx, hb, hml, hown, hts⟩ (c_X4_isReached l dC dI cI cZ cS cC cJ a v H.size k1 p0 hD hI.self i1 hi_17 ek1) (cwV 2 hts (gV (fun w h => List.mem_cons_of_mem _ h) kw_t1_214 kw_t1_215 kw_t1_216 kw_t1_2 kw_t1_217) rfl rfl rfl (by decide +kernel) ⟨Nat.le_of_ble_eq_true rfl, Nat.le_of_ble_eq_true rfl⟩) ⟨fun av U g mk q => by obtain ⟨q0, q1, qP, qK, qN⟩ := q; exact ⟨q0, q1, qP, va_K.moved (u := U) (U := U.calling g mk av) (Vm.Alike.refl U.vm) qK, mN_same qN⟩, va_recv hK hP (ci := 4) (q0 := 3) rfl at_3, fun U hU hW => ⟨rfl, by rw [hU], by rw [hU]; exact hP, va_K.moved hW.alike hK, mN_warm hW hN⟩⟩ rfl rfl hl.1 rfl (lv_room (Nat.le_of_ble_eq_true rfl)) dX5_isHeldUp_33 ⟨Nat.le_of_ble_eq_true rfl, Nat.le_of_ble_eq_true rfl⟩) hS (fun q _ h => hFc q h) hFc (fun r_16 _ t H locs ht hvm hw_16 hP _ _ hS => ?_)
            have hP := kt_heap2 ht hP
            clear ht hFc
            have hP : va_P (dC, dI) vwCl (mW cI cZ cS cC cJ a v) H := hP
            refine lv_if_eq (tgt := 43) hx hb dX5_isHeldUp_36 (by decide) (fun c_18 => ?_) (fun c_18 => ?_)
            · refine lv_iconst (v := 0) hx hb dX5_isHeldUp_43 (by decide) ?_
              refine lv_istore_n (lv' := [(3, .int 0), (2, .int k1), (0, .ref (a 0)), (1, .int p0)]) hx hb dX5_isHeldUp_44 rfl hl (by decide) rfl (fun ls hl => ?_)
              refine lv_iload_n hx hb dX5_isHeldUp_45 rfl (lv_at hl 0 rfl) ?_
              refine lv_if_eq (tgt := 63) hx hb dX5_isHeldUp_46 (by decide) (fun c_19 => ?_) (fun c_19 => absurd (by decide) c_19)
              obtain ⟨t_20, et_20⟩ : ∃ y : Int32, y = k1 + 1 := ⟨_, rfl⟩
              refine lv_iinc (v := t_20) (lv' := [(2, .int t_20), (3, .int 0), (0, .ref (a 0)), (1, .int p0)]) hx hb dX5_isHeldUp_63 hl (k := 1) rfl (by rw [et_20]; rfl) (by decide) rfl (fun ls hl => ?_)
              refine lv_goto (tgt := 2) hx hb dX5_isHeldUp_66 (by decide) ?_
              exact ih1 (i1 + 1) t_20 _ _ _ (by omega) (by omega) (by rw [et_20, ek1]; exact nI_1 i1) hP hS (lv_sub hl [0, 2, 3] rfl)
            · refine lv_iconst (v := 1) hx hb dX5_isHeldUp_39 (by decide) ?_
              refine lv_goto (tgt := 44) hx hb dX5_isHeldUp_40 (by decide) ?_
              refine lv_istore_n (lv' := [(3, .int 1), (2, .int k1), (0, .ref (a 0)), (1, .int p0)]) hx hb dX5_isHeldUp_44 rfl hl (by decide) rfl (fun ls hl => ?_)
              refine lv_iload_n hx hb dX5_isHeldUp_45 rfl (lv_at hl 0 rfl) ?_
              refine lv_if_eq (tgt := 63) hx hb dX5_isHeldUp_46 (by decide) (fun c_21 => absurd c_21 (by decide)) (fun c_21 => ?_)
              refine lv_aload_n hx hb dX5_isHeldUp_49 rfl (lv_at hl 2 rfl) ?_
              refine va_get (D := (dC, dI)) (ci := 5) (v := .ref (a 2)) (C := RX5) (T := TX5) (N := 11) hx hb hts (fun w h => List.mem_cons_of_mem _ (inWX5 w h)) hown hK hP 0 at_0 rfl 1 (by decide) (hts _ (List.mem_cons_of_mem _ kw_t1_158)) (fun _ h9 => h9) rfl dX5_isHeldUp_50 ?_
              refine lv_iload_n hx hb dX5_isHeldUp_53 rfl (lv_at hl 1 rfl) ?_
              refine m_aldC hx hb hK hP ek1 hi_17 dX5_isHeldUp_54 ?_
              have hFc := mA_free (a := a) hS hA hAc
              refine va_calli (va_runV (As := []) (rest := []) ⟨hx, hb, hml, hown, hts⟩ (c_X0_goesOn l dC dI cI cZ cS cC cJ a v H.size i1 hi_17 hD hI.self) (cwV 0 hts (gV (fun w h => List.mem_cons_of_mem _ h) kw_t2_6 kw_t2_7 kw_t2_8 kw_t1_5 kw_t2_9) rfl rfl rfl (by decide +kernel) ⟨Nat.le_of_ble_eq_true rfl, Nat.le_of_ble_eq_true rfl⟩) ⟨fun av U g mk q => by obtain ⟨q0, q1, qP, qK, qN⟩ := q; exact ⟨q0, q1, qP, va_K.moved (u := U) (U := U.calling g mk av) (Vm.Alike.refl U.vm) qK, mN_same qN⟩, va_recv hK hP (ci := 0) (q0 := (9 + 3 * i1)) rfl (at_C hi_17), fun U hU hW => ⟨rfl, by rw [hU], by rw [hU]; exact hP, va_K.moved hW.alike hK, mN_warm hW hN⟩⟩ rfl rfl hl.1 rfl (lv_room (Nat.le_of_ble_eq_true rfl)) dX5_isHeldUp_55 ⟨Nat.le_of_ble_eq_true rfl, Nat.le_of_ble_eq_true rfl⟩) hS (fun q _ h => hFc q h) hFc (fun r_22 _ t H locs ht hvm hw_22 hP _ _ hS => ?_)
              have hP := kt_heap2 ht hP
              clear ht hFc
              have hP : va_P (dC, dI) vwCl (mW cI cZ cS cC cJ a v) H := hP
              refine lv_if_eq (tgt := 63) hx hb dX5_isHeldUp_58 (by decide) (fun c_23 => ?_) (fun c_23 => ?_)
              · obtain ⟨t_24, et_24⟩ : ∃ y : Int32, y = k1 + 1 := ⟨_, rfl⟩
                refine lv_iinc (v := t_24) (lv' := [(2, .int t_24), (3, .int 1), (0, .ref (a 0)), (1, .int p0)]) hx hb dX5_isHeldUp_63 hl (k := 1) rfl (by rw [et_24]; rfl) (by decide) rfl (fun ls hl => ?_)
                refine lv_goto (tgt := 2) hx hb dX5_isHeldUp_66 (by decide) ?_
                exact ih1 (i1 + 1) t_24 _ _ _ (by omega) (by omega) (by rw [et_24, ek1]; exact nI_1 i1) hP hS (lv_sub hl [0, 2, 3] rfl)
              · refine lv_iconst (v := 1) hx hb dX5_isHeldUp_61 (by decide) ?_
                rw [hQ9]
                exact W.zret (v := 1) (ty := .boolean) hx hb hr rfl (fun t ht hW => ⟨⟨1, (), rfl, (Or.inr rfl), kt_heap ht hP⟩, hS.F ht⟩) hS.2.2 dX5_isHeldUp_62
  exact key1 (12 + 1) 0 0 _ _ _ (Nat.zero_le _) (by omega) rfl hP hS (lv_sub hl [0, 1, 2] rfl)

set_option maxHeartbeats 4000000 in
set_option maxRecDepth 100000 in
theorem c_X5_nextStir (l : Launch) (dC : Nat → ClassId) (dI : Nat → Nat → Nat) (cI cZ cS cC cJ : ClassId) (a : Nat → Nat) (v : Nat → Nat → Int32) (sz : Nat) (p0 : Int32) (hD : mDD a) (hI : kI v v) (hnw : 0 ≤ (v 0 6).toInt ∧ (v 0 6).toInt ≤ 100000) : Met l yX5_nextStir (Cond.code yX5_nextStir cX5_nextStir 4 (some .int) :: WW) ({ frames := 4, cells := 0, slots := 0, locals := 120 }) (va_Pc [.ref (a 0), .int p0] (fun U => U.heap.size = sz ∧ va_P (dC, dI) vwCl (mW cI cZ cS cC cJ a v) U.heap ∧ va_K (dC, dI) vwCl [(cI, .int), (cZ, .boolean), (cS, .object RX3), (cC, .object RX0), (cJ, .long)] U ∧ mN U)) (va_Qi (fun (r : Int32) (_u : Unit) => ((v 0 6).toInt < p0.toInt → (v 0 6).toInt < r.toInt ∧ r.toInt ≤ p0.toInt)) (fun (_ : Unit) (t : State) => va_P (dC, dI) vwCl (mW cI cZ cS cC cJ a v) t.heap) (mA a sz)) 0 0 (mA a sz) := by
  refine Met.ofW (cc := cX5_nextStir) (maxL := 4) (ret := (some .int)) (by decide) rfl ?_
  intro p e s m args below meth c s₁ B hml hv
  obtain ⟨rfl, hsz, hP, hK, hN⟩ := hv
  have hx := B.exec
  have hb := B.bytes
  have hr := B.returns
  have hts := atoms_spec (ws := Cond.code yX5_nextStir cX5_nextStir 4 (some .int) :: WW) B.pre
  have hown : s.vm.findClass RX5 = some m.cls := findClass_of_methodNamed B.named
  have hlocks := B.notSynchronized
  subst hsz
  have hAc : ∀ c, c < 81 → mA a s.heap.size (a c) := fun c h => Or.inl ⟨c, h, rfl⟩
  have hA : ∀ q : Nat, s.heap.size ≤ q → mA a s.heap.size q := fun q h => Or.inr h
  generalize hAe : mA a s.heap.size = A at hAc hA ⊢
  have hS : va_S A s.heap s.heap [] := va_S.rf
  have hl := lv_entry ([.ref (a 0), .int p0]) (n := 4) (Nat.le_of_ble_eq_true rfl)
  rw [lg_entry_eq]
  generalize (lg_sl ([.ref (a 0), .int p0]) ++ List.replicate (4 - (lg_sl ([.ref (a 0), .int p0])).length) Slot.unset).toArray = ls at hl ⊢
  have hl : lv_has ls 4 [(0, .ref (a 0)), (1, .int p0)] := hl
  refine kt_absQ (fun Q hQ9 => ?_)
  refine lv_iload_n hx hb dX5_nextStir_0 rfl (lv_at hl 1 rfl) ?_
  refine lv_istore_n (lv' := [(2, .int p0), (0, .ref (a 0)), (1, .int p0)]) hx hb dX5_nextStir_1 rfl hl (by decide) rfl (fun ls hl => ?_)
  refine lv_iconst (v := 0) hx hb dX5_nextStir_2 (by decide) ?_
  refine lv_istore_n (lv' := [(3, .int 0), (2, .int p0), (0, .ref (a 0)), (1, .int p0)]) hx hb dX5_nextStir_3 rfl hl (by decide) rfl (fun ls hl => ?_)
  have key1 : ∀ (n i1 : Nat) (k1 : Int32) (y1_2 : Int32) (H : Heap) (locs : List Loc) (ls : Array Slot), i1 ≤ 12 → 12 - i1 < n → k1 = nI i1 → va_P (dC, dI) vwCl (mW cI cZ cS cC cJ a v) H → va_S A s.heap H locs → lv_has ls 4 [(3, .int k1), (2, .int y1_2), (0, .ref (a 0)), (1, .int p0)] → (y1_2.toInt ≤ p0.toInt) → W p l e (headSpec (Cond.code yX5_nextStir cX5_nextStir 4 (some .int) :: WW) ({ frames := 4, cells := 0, slots := 0, locals := 120 })).room s m ([.ref (a 0), .int p0] : List Value).toArray below meth c H locs 0 0 Q (F0 m 4 ls []) := by
    intro n
    induction n with
    | zero => intro i k y1_2 H locs ls h1 h2; exact absurd h2 (by omega)
    | succ n ih1 =>
      intro i1 k1 y1_2 H locs ls hi1 hin1 ek1 hP hS hl hJ1
      refine lv_iload_n hx hb dX5_nextStir_4 rfl (lv_at hl 0 rfl) ?_
      refine lv_aload_n hx hb dX5_nextStir_5 rfl (lv_at hl 2 rfl) ?_
      refine va_get (D := (dC, dI)) (ci := 5) (v := .int (v 0 5)) (C := RX5) (T := TX5) (N := 11) hx hb hts (fun w h => List.mem_cons_of_mem _ (inWX5 w h)) hown hK hP 0 at_0 rfl 5 (by decide) (hts _ (List.mem_cons_of_mem _ kw_t1_162)) (fun _ h9 => h9) rfl dX5_nextStir_6 ?_
      refine lv_topi (fun t_1 et_1 => ?_)
      have hsc_1 : 0 ≤ t_1.toInt ∧ t_1.toInt ≤ 12 := by rw [et_1]; exact hI.sc
      refine lv_icmp_ge (tgt := 76) hx hb dX5_nextStir_9 (by decide) (fun c_2 => ?_) (fun c_2 => ?_)
      · refine lv_iload_n hx hb dX5_nextStir_76 rfl (lv_at hl 1 rfl) ?_
        refine lv_aload_n hx hb dX5_nextStir_77 rfl (lv_at hl 2 rfl) ?_
        refine va_get (D := (dC, dI)) (ci := 5) (v := .int (v 0 6)) (C := RX5) (T := TX5) (N := 11) hx hb hts (fun w h => List.mem_cons_of_mem _ (inWX5 w h)) hown hK hP 0 at_0 rfl 6 (by decide) (hts _ (List.mem_cons_of_mem _ kw_t1_163)) (fun _ h9 => h9) rfl dX5_nextStir_78 ?_
        refine lv_topi (fun t_3 et_3 => ?_)
        refine lv_iconst (v := 1) hx hb dX5_nextStir_81 (by decide) ?_
        refine lv_iadd hx hb dX5_nextStir_82 ?_
        refine lv_topi (fun t_4 et_4 => ?_)
        refine va_mmax hx hb (hml.trans hl.1.symm) hown (hts _ (List.mem_cons_of_mem _ kw_t2_85)) (hts _ (List.mem_cons_of_mem _ kw_t2_40)) (hts _ (List.mem_cons_of_mem _ kw_t1_8)) (hts _ (List.mem_cons_of_mem _ kw_t2_41)) (Nat.le_of_ble_eq_true rfl) (Nat.le_of_ble_eq_true rfl) (Nat.zero_le _) (Nat.zero_le _) dX5_nextStir_83 ?_
        refine lv_topi (fun t_5 et_5 => ?_)
        rw [hQ9]
        have hy9 := kt_addK (x := t_3) (by rw [et_3]; omega) (by rw [et_3]; omega) et_4
        have hm9 := kt_mx et_5
        have hl9 : y1_2.toInt ≤ p0.toInt := hJ1
        rw [et_3] at hy9
        exact W.iret (v := t_5) hx hb hr (fun t ht hW => ⟨⟨t_5, (), rfl, (fun h9 => ⟨by omega, by rcases hm9.2 with z | z <;> omega⟩), kt_heap ht hP⟩, hS.F ht⟩) hS.2.2 dX5_nextStir_86
      · refine lv_iload_n hx hb dX5_nextStir_12 rfl (lv_at hl 1 rfl) ?_
        refine lv_aload_n hx hb dX5_nextStir_13 rfl (lv_at hl 2 rfl) ?_
        refine va_get (D := (dC, dI)) (ci := 5) (v := .ref (a 2)) (C := RX5) (T := TX5) (N := 11) hx hb hts (fun w h => List.mem_cons_of_mem _ (inWX5 w h)) hown hK hP 0 at_0 rfl 1 (by decide) (hts _ (List.mem_cons_of_mem _ kw_t1_158)) (fun _ h9 => h9) rfl dX5_nextStir_14 ?_
        refine lv_iload_n hx hb dX5_nextStir_17 rfl (lv_at hl 0 rfl) ?_
        have hi_6 : i1 < 12 := kt_lt12 hsc_1 ek1 hi1 c_2
        refine m_aldC hx hb hK hP ek1 hi_6 dX5_nextStir_18 ?_
        refine lv_iload_n hx hb dX5_nextStir_19 rfl (lv_at hl 3 rfl) ?_
        refine lv_aload_n hx hb dX5_nextStir_20 rfl (lv_at hl 2 rfl) ?_
        refine va_get (D := (dC, dI)) (ci := 5) (v := .ref (a 5)) (C := RX5) (T := TX5) (N := 11) hx hb hts (fun w h => List.mem_cons_of_mem _ (inWX5 w h)) hown hK hP 0 at_0 rfl 3 (by decide) (hts _ (List.mem_cons_of_mem _ kw_t1_160)) (fun _ h9 => h9) rfl dX5_nextStir_21 ?_
        have hFc := mA_free (a := a) hS hA hAc
        refine va_calli (va_runV (As := [.int p0, .ref (a 5)]) (rest := [.int y1_2]) ⟨hx, hb, hml, hown, hts⟩ (c_X0_nextLetter l dC dI cI cZ cS cC cJ a v H.size i1 hi_6 p0 hD hI.self) (cwV 2 hts (gV (fun w h => List.mem_cons_of_mem _ h) kw_t2_63 kw_t2_64 kw_t2_65 kw_t1_5 kw_t2_66) rfl rfl rfl (by decide +kernel) ⟨Nat.le_of_ble_eq_true rfl, Nat.le_of_ble_eq_true rfl⟩) ⟨fun av U g mk q => by obtain ⟨q0, q1, qP, qK, qN⟩ := q; exact ⟨q0, q1, qP, va_K.moved (u := U) (U := U.calling g mk av) (Vm.Alike.refl U.vm) qK, mN_same qN⟩, va_recv hK hP (ci := 0) (q0 := (9 + 3 * i1)) rfl (at_C hi_6), fun U hU hW => ⟨rfl, by rw [hU], by rw [hU]; exact hP, va_K.moved hW.alike hK, mN_warm hW hN⟩⟩ rfl rfl hl.1 rfl (lv_room (Nat.le_of_ble_eq_true rfl)) dX5_nextStir_24 ⟨Nat.le_of_ble_eq_true rfl, Nat.le_of_ble_eq_true rfl⟩) hS (fun q _ h => hFc q h) hFc (fun r_7 _ t H locs ht hvm hw_7 hP _ _ hS => ?_)
        have hP := kt_heap2 ht hP
        clear ht hFc
        have hP : va_P (dC, dI) vwCl (mW cI cZ cS cC cJ a v) H := hP
        refine va_mmin hx hb (hml.trans hl.1.symm) hown (hts _ (List.mem_cons_of_mem _ kw_t2_71)) (hts _ (List.mem_cons_of_mem _ kw_t2_69)) (hts _ (List.mem_cons_of_mem _ kw_t1_8)) (hts _ (List.mem_cons_of_mem _ kw_t2_70)) (Nat.le_of_ble_eq_true rfl) (Nat.le_of_ble_eq_true rfl) (Nat.zero_le _) (Nat.zero_le _) dX5_nextStir_27 ?_
        refine lv_topi (fun t_8 et_8 => ?_)
        refine lv_istore_n (lv' := [(2, .int t_8), (3, .int k1), (0, .ref (a 0)), (1, .int p0)]) hx hb dX5_nextStir_30 rfl hl (by decide) rfl (fun ls hl => ?_)
        refine lv_aload_n hx hb dX5_nextStir_31 rfl (lv_at hl 2 rfl) ?_
        refine va_get (D := (dC, dI)) (ci := 5) (v := .ref (a 5)) (C := RX5) (T := TX5) (N := 11) hx hb hts (fun w h => List.mem_cons_of_mem _ (inWX5 w h)) hown hK hP 0 at_0 rfl 3 (by decide) (hts _ (List.mem_cons_of_mem _ kw_t1_160)) (fun _ h9 => h9) rfl dX5_nextStir_32 ?_
        refine lv_bipush (v := 16) hx hb dX5_nextStir_35 (by decide) ?_
        have hFc := mA_free (a := a) hS hA hAc
        refine va_calli (va_runV (As := [.int 16]) (rest := []) ⟨hx, hb, hml, hown, hts⟩ (c_X2_isDown l dC dI cI cZ cS cC cJ a v H.size 16 hD hI.self) (cwV 1 hts (gV (fun w h => List.mem_cons_of_mem _ h) kw_t1_234 kw_t1_235 kw_t1_236 kw_t1_3 kw_t1_237) rfl rfl rfl (by decide +kernel) ⟨Nat.le_of_ble_eq_true rfl, Nat.le_of_ble_eq_true rfl⟩) ⟨fun av U g mk q => by obtain ⟨q0, q1, qP, qK, qN⟩ := q; exact ⟨q0, q1, qP, va_K.moved (u := U) (U := U.calling g mk av) (Vm.Alike.refl U.vm) qK, mN_same qN⟩, va_recv hK hP (ci := 2) (q0 := 5) rfl at_5, fun U hU hW => ⟨rfl, by rw [hU], by rw [hU]; exact hP, va_K.moved hW.alike hK, mN_warm hW hN⟩⟩ rfl rfl hl.1 rfl (lv_room (Nat.le_of_ble_eq_true rfl)) dX5_nextStir_37 ⟨Nat.le_of_ble_eq_true rfl, Nat.le_of_ble_eq_true rfl⟩) hS (fun q _ h => hFc q h) hFc (fun r_9 _ t H locs ht hvm hw_9 hP _ _ hS => ?_)
        have hP := kt_heap2 ht hP
        clear ht hFc
        have hP : va_P (dC, dI) vwCl (mW cI cZ cS cC cJ a v) H := hP
        refine lv_if_ne (tgt := 70) hx hb dX5_nextStir_40 (by decide) (fun c_10 => ?_) (fun c_10 => ?_)
        · obtain ⟨t_11, et_11⟩ : ∃ y : Int32, y = k1 + 1 := ⟨_, rfl⟩
          refine lv_iinc (v := t_11) (lv' := [(3, .int t_11), (2, .int t_8), (0, .ref (a 0)), (1, .int p0)]) hx hb dX5_nextStir_70 hl (k := 1) rfl (by rw [et_11]; rfl) (by decide) rfl (fun ls hl => ?_)
          refine lv_goto (tgt := 4) hx hb dX5_nextStir_73 (by decide) ?_
          exact ih1 (i1 + 1) t_11 t_8 _ _ _ (by omega) (by omega) (by rw [et_11, ek1]; exact nI_1 i1) hP hS (lv_sub hl [0, 1, 2, 3] rfl) (Int.le_trans (kt_mn et_8) hJ1)
        · refine lv_iload_n hx hb dX5_nextStir_43 rfl (lv_at hl 0 rfl) ?_
          refine lv_aload_n hx hb dX5_nextStir_44 rfl (lv_at hl 2 rfl) ?_
          refine va_get (D := (dC, dI)) (ci := 5) (v := .ref (a 2)) (C := RX5) (T := TX5) (N := 11) hx hb hts (fun w h => List.mem_cons_of_mem _ (inWX5 w h)) hown hK hP 0 at_0 rfl 1 (by decide) (hts _ (List.mem_cons_of_mem _ kw_t1_158)) (fun _ h9 => h9) rfl dX5_nextStir_45 ?_
          refine lv_iload_n hx hb dX5_nextStir_48 rfl (lv_at hl 1 rfl) ?_
          refine m_aldC hx hb hK hP ek1 hi_6 dX5_nextStir_49 ?_
          refine lv_iload_n hx hb dX5_nextStir_50 rfl (lv_at hl 3 rfl) ?_
          refine lv_aload_n hx hb dX5_nextStir_51 rfl (lv_at hl 2 rfl) ?_
          refine va_get (D := (dC, dI)) (ci := 5) (v := .int (v 0 6)) (C := RX5) (T := TX5) (N := 11) hx hb hts (fun w h => List.mem_cons_of_mem _ (inWX5 w h)) hown hK hP 0 at_0 rfl 6 (by decide) (hts _ (List.mem_cons_of_mem _ kw_t1_163)) (fun _ h9 => h9) rfl dX5_nextStir_52 ?_
          refine lv_topi (fun t_12 et_12 => ?_)
          refine lv_aload_n hx hb dX5_nextStir_55 rfl (lv_at hl 2 rfl) ?_
          refine va_get (D := (dC, dI)) (ci := 5) (v := .int (v 0 7)) (C := RX5) (T := TX5) (N := 11) hx hb hts (fun w h => List.mem_cons_of_mem _ (inWX5 w h)) hown hK hP 0 at_0 rfl 7 (by decide) (hts _ (List.mem_cons_of_mem _ kw_t1_164)) (fun _ h9 => h9) rfl dX5_nextStir_56 ?_
          refine lv_topi (fun t_13 et_13 => ?_)
          refine lv_aload_n hx hb dX5_nextStir_59 rfl (lv_at hl 2 rfl) ?_
          refine va_get (D := (dC, dI)) (ci := 5) (v := .int (v 0 8)) (C := RX5) (T := TX5) (N := 11) hx hb hts (fun w h => List.mem_cons_of_mem _ (inWX5 w h)) hown hK hP 0 at_0 rfl 8 (by decide) (hts _ (List.mem_cons_of_mem _ kw_t1_165)) (fun _ h9 => h9) rfl dX5_nextStir_60 ?_
          refine lv_topi (fun t_14 et_14 => ?_)
          have hFc := mA_free (a := a) hS hA hAc
          refine va_calli (va_runV (As := [.int p0, .int t_12, .int t_13, .int t_14]) (rest := [.int t_8]) ⟨hx, hb, hml, hown, hts⟩ (c_X0_nextStepEnd l dC dI cI cZ cS cC cJ a v H.size i1 hi_6 p0 t_12 t_13 t_14 hD hI.self) (cwV 4 hts (gV (fun w h => List.mem_cons_of_mem _ h) kw_t2_72 kw_t2_73 kw_t2_74 kw_t1_5 kw_t2_75) rfl rfl rfl (by decide +kernel) ⟨Nat.le_of_ble_eq_true rfl, Nat.le_of_ble_eq_true rfl⟩) ⟨fun av U g mk q => by obtain ⟨q0, q1, qP, qK, qN⟩ := q; exact ⟨q0, q1, qP, va_K.moved (u := U) (U := U.calling g mk av) (Vm.Alike.refl U.vm) qK, mN_same qN⟩, va_recv hK hP (ci := 0) (q0 := (9 + 3 * i1)) rfl (at_C hi_6), fun U hU hW => ⟨rfl, by rw [hU], by rw [hU]; exact hP, va_K.moved hW.alike hK, mN_warm hW hN⟩⟩ rfl rfl hl.1 rfl (lv_room (Nat.le_of_ble_eq_true rfl)) dX5_nextStir_63 ⟨Nat.le_of_ble_eq_true rfl, Nat.le_of_ble_eq_true rfl⟩) hS (fun q _ h => hFc q h) hFc (fun r_15 _ t H locs ht hvm hw_15 hP _ _ hS => ?_)
          have hP := kt_heap2 ht hP
          clear ht hFc
          have hP : va_P (dC, dI) vwCl (mW cI cZ cS cC cJ a v) H := hP
          refine va_mmin hx hb (hml.trans hl.1.symm) hown (hts _ (List.mem_cons_of_mem _ kw_t2_71)) (hts _ (List.mem_cons_of_mem _ kw_t2_69)) (hts _ (List.mem_cons_of_mem _ kw_t1_8)) (hts _ (List.mem_cons_of_mem _ kw_t2_70)) (Nat.le_of_ble_eq_true rfl) (Nat.le_of_ble_eq_true rfl) (Nat.zero_le _) (Nat.zero_le _) dX5_nextStir_66 ?_
          refine lv_topi (fun t_16 et_16 => ?_)
          refine lv_istore_n (lv' := [(2, .int t_16), (3, .int k1), (0, .ref (a 0)), (1, .int p0)]) hx hb dX5_nextStir_69 rfl hl (by decide) rfl (fun ls hl => ?_)
          obtain ⟨t_17, et_17⟩ : ∃ y : Int32, y = k1 + 1 := ⟨_, rfl⟩
          refine lv_iinc (v := t_17) (lv' := [(3, .int t_17), (2, .int t_16), (0, .ref (a 0)), (1, .int p0)]) hx hb dX5_nextStir_70 hl (k := 1) rfl (by rw [et_17]; rfl) (by decide) rfl (fun ls hl => ?_)
          refine lv_goto (tgt := 4) hx hb dX5_nextStir_73 (by decide) ?_
          exact ih1 (i1 + 1) t_17 t_16 _ _ _ (by omega) (by omega) (by rw [et_17, ek1]; exact nI_1 i1) hP hS (lv_sub hl [0, 1, 2, 3] rfl) (Int.le_trans (kt_mn et_16) (Int.le_trans (kt_mn et_8) hJ1))
  exact key1 (12 + 1) 0 0 p0 _ _ _ (Nat.zero_le _) (by omega) rfl hP hS (lv_sub hl [0, 1, 2, 3] rfl) (Int.le_refl _)

set_option maxHeartbeats 4000000 in
set_option maxRecDepth 100000 in
theorem c_X5_goOn (l : Launch) (dC : Nat → ClassId) (dI : Nat → Nat → Nat) (cI cZ cS cC cJ : ClassId) (a : Nat → Nat) (v : Nat → Nat → Int32) (sz : Nat) (i : Nat) (hi : i < 12) (hD : mDD a) (hI : kI v v) : Met l yX5_goOn (Cond.code yX5_goOn cX5_goOn 4 none :: WW) ({ frames := 3, cells := 0, slots := 0, locals := 90 }) (va_Pc [.ref (a 0), .ref (a (9 + 3 * i))] (fun U => U.heap.size = sz ∧ va_P (dC, dI) vwCl (mW cI cZ cS cC cJ a v) U.heap ∧ va_K (dC, dI) vwCl [(cI, .int), (cZ, .boolean), (cS, .object RX3), (cC, .object RX0), (cJ, .long)] U ∧ mN U)) (va_Qv (fun (u : Nat → Nat → Int32) => kI v u) (fun (u : Nat → Nat → Int32) (t : State) => va_P (dC, dI) vwCl (mW cI cZ cS cC cJ a u) t.heap) (mA a sz)) 0 0 (mA a sz) := by
  refine Met.ofW (cc := cX5_goOn) (maxL := 4) (ret := none) (by decide) rfl ?_
  intro p e s m args below meth c s₁ B hml hv
  obtain ⟨rfl, hsz, hP, hK, hN⟩ := hv
  have hx := B.exec
  have hb := B.bytes
  have hr := B.returns
  have hts := atoms_spec (ws := Cond.code yX5_goOn cX5_goOn 4 none :: WW) B.pre
  have hown : s.vm.findClass RX5 = some m.cls := findClass_of_methodNamed B.named
  have hlocks := B.notSynchronized
  subst hsz
  have hAc : ∀ c, c < 81 → mA a s.heap.size (a c) := fun c h => Or.inl ⟨c, h, rfl⟩
  have hA : ∀ q : Nat, s.heap.size ≤ q → mA a s.heap.size q := fun q h => Or.inr h
  generalize hAe : mA a s.heap.size = A at hAc hA ⊢
  have hS : va_S A s.heap s.heap [] := va_S.rf
  have hl := lv_entry ([.ref (a 0), .ref (a (9 + 3 * i))]) (n := 4) (Nat.le_of_ble_eq_true rfl)
  rw [lg_entry_eq]
  generalize (lg_sl ([.ref (a 0), .ref (a (9 + 3 * i))]) ++ List.replicate (4 - (lg_sl ([.ref (a 0), .ref (a (9 + 3 * i))])).length) Slot.unset).toArray = ls at hl ⊢
  have hl : lv_has ls 4 [(0, .ref (a 0)), (1, .ref (a (9 + 3 * i)))] := hl
  refine kt_absQ (fun Q hQ9 => ?_)
  refine lv_iconst (v := 0) hx hb dX5_goOn_0 (by decide) ?_
  refine lv_istore_n (lv' := [(2, .int 0), (0, .ref (a 0)), (1, .ref (a (9 + 3 * i)))]) hx hb dX5_goOn_1 rfl hl (by decide) rfl (fun ls hl => ?_)
  have key1 : ∀ (n i1 : Nat) (k1 : Int32) (w1 : Nat → Nat → Int32) (H : Heap) (locs : List Loc) (ls : Array Slot), i1 ≤ 5 → 5 - i1 < n → k1 = nI i1 → va_P (dC, dI) vwCl (mW cI cZ cS cC cJ a w1) H → va_S A s.heap H locs → lv_has ls 4 [(2, .int k1), (0, .ref (a 0)), (1, .ref (a (9 + 3 * i)))] → kI v w1 → W p l e (headSpec (Cond.code yX5_goOn cX5_goOn 4 none :: WW) ({ frames := 3, cells := 0, slots := 0, locals := 90 })).room s m ([.ref (a 0), .ref (a (9 + 3 * i))] : List Value).toArray below meth c H locs 0 0 Q (F0 m 2 ls []) := by
    intro n
    induction n with
    | zero => intro i k w1 H locs ls h1 h2; exact absurd h2 (by omega)
    | succ n ih1 =>
      intro i1 k1 w1 H locs ls hi1 hin1 ek1 hP hS hl hI
      refine lv_iload_n hx hb dX5_goOn_2 rfl (lv_at hl 0 rfl) ?_
      refine lv_iconst (v := 5) hx hb dX5_goOn_3 (by decide) ?_
      refine lv_icmp_ge (tgt := 69) hx hb dX5_goOn_4 (by decide) (fun c_1 => ?_) (fun c_1 => ?_)
      · rw [hQ9]
        exact W.vret hx hb hr (fun t ht hW => ⟨⟨w1, rfl, hI, kt_heap ht hP⟩, hS.F ht⟩) hS.2.2 dX5_goOn_69
      · refine lv_aload_n hx hb dX5_goOn_7 rfl (lv_at hl 2 rfl) ?_
        refine lv_aload_n hx hb dX5_goOn_8 rfl (lv_at hl 1 rfl) ?_
        refine va_get (D := (dC, dI)) (ci := 5) (v := .int (w1 0 6)) (C := RX5) (T := TX5) (N := 11) hx hb hts (fun w h => List.mem_cons_of_mem _ (inWX5 w h)) hown hK hP 0 at_0 rfl 6 (by decide) (hts _ (List.mem_cons_of_mem _ kw_t1_163)) (fun _ h9 => h9) rfl dX5_goOn_9 ?_
        refine lv_topi (fun t_2 et_2 => ?_)
        refine lv_aload_n hx hb dX5_goOn_12 rfl (lv_at hl 1 rfl) ?_
        refine va_get (D := (dC, dI)) (ci := 5) (v := .int (w1 0 7)) (C := RX5) (T := TX5) (N := 11) hx hb hts (fun w h => List.mem_cons_of_mem _ (inWX5 w h)) hown hK hP 0 at_0 rfl 7 (by decide) (hts _ (List.mem_cons_of_mem _ kw_t1_164)) (fun _ h9 => h9) rfl dX5_goOn_13 ?_
        refine lv_topi (fun t_3 et_3 => ?_)
        refine lv_aload_n hx hb dX5_goOn_16 rfl (lv_at hl 1 rfl) ?_
        refine va_get (D := (dC, dI)) (ci := 5) (v := .int (w1 0 8)) (C := RX5) (T := TX5) (N := 11) hx hb hts (fun w h => List.mem_cons_of_mem _ (inWX5 w h)) hown hK hP 0 at_0 rfl 8 (by decide) (hts _ (List.mem_cons_of_mem _ kw_t1_165)) (fun _ h9 => h9) rfl dX5_goOn_17 ?_
        refine lv_topi (fun t_4 et_4 => ?_)
        have hFc := mA_free (a := a) hS hA hAc
        refine va_calli (va_runV (As := [.int t_2, .int t_3, .int t_4]) (rest := []) ⟨hx, hb, hml, hown, hts⟩ (c_X0_isStepOver l dC dI cI cZ cS cC cJ a w1 H.size i hi t_2 t_3 t_4 hD hI.self) (cwV 3 hts (gV (fun w h => List.mem_cons_of_mem _ h) kw_t2_98 kw_t2_81 kw_t2_82 kw_t1_5 kw_t2_83) rfl rfl rfl (by decide +kernel) ⟨Nat.le_of_ble_eq_true rfl, Nat.le_of_ble_eq_true rfl⟩) ⟨fun av U g mk q => by obtain ⟨q0, q1, qP, qK, qN⟩ := q; exact ⟨q0, q1, qP, va_K.moved (u := U) (U := U.calling g mk av) (Vm.Alike.refl U.vm) qK, mN_same qN⟩, va_recv hK hP (ci := 0) (q0 := (9 + 3 * i)) rfl (at_C hi), fun U hU hW => ⟨rfl, by rw [hU], by rw [hU]; exact hP, va_K.moved hW.alike hK, mN_warm hW hN⟩⟩ rfl rfl hl.1 rfl (lv_room (Nat.le_of_ble_eq_true rfl)) dX5_goOn_20 ⟨Nat.le_of_ble_eq_true rfl, Nat.le_of_ble_eq_true rfl⟩) hS (fun q _ h => hFc q h) hFc (fun r_5 _ t H locs ht hvm hw_5 hP _ _ hS => ?_)
        have hP := kt_heap2 ht hP
        clear ht hFc
        have hP : va_P (dC, dI) vwCl (mW cI cZ cS cC cJ a w1) H := hP
        refine lv_if_eq (tgt := 69) hx hb dX5_goOn_23 (by decide) (fun c_6 => ?_) (fun c_6 => ?_)
        · rw [hQ9]
          exact W.vret hx hb hr (fun t ht hW => ⟨⟨w1, rfl, hI, kt_heap ht hP⟩, hS.F ht⟩) hS.2.2 dX5_goOn_69
        · refine lv_aload_n hx hb dX5_goOn_26 rfl (lv_at hl 2 rfl) ?_
          have hFc := mA_free (a := a) hS hA hAc
          refine va_calli (va_runV (As := []) (rest := []) ⟨hx, hb, hml, hown, hts⟩ (c_X0_followingStep l dC dI cI cZ cS cC cJ a w1 H.size i hi hD hI.self) (cwV 0 hts (gV (fun w h => List.mem_cons_of_mem _ h) kw_t2_99 kw_t2_100 kw_t2_101 kw_t1_5 kw_t2_102) rfl rfl rfl (by decide +kernel) ⟨Nat.le_of_ble_eq_true rfl, Nat.le_of_ble_eq_true rfl⟩) ⟨fun av U g mk q => by obtain ⟨q0, q1, qP, qK, qN⟩ := q; exact ⟨q0, q1, qP, va_K.moved (u := U) (U := U.calling g mk av) (Vm.Alike.refl U.vm) qK, mN_same qN⟩, va_recv hK hP (ci := 0) (q0 := (9 + 3 * i)) rfl (at_C hi), fun U hU hW => ⟨rfl, by rw [hU], by rw [hU]; exact hP, va_K.moved hW.alike hK, mN_warm hW hN⟩⟩ rfl rfl hl.1 rfl (lv_room (Nat.le_of_ble_eq_true rfl)) dX5_goOn_27 ⟨Nat.le_of_ble_eq_true rfl, Nat.le_of_ble_eq_true rfl⟩) hS (fun q _ h => hFc q h) hFc (fun r_7 _ t H locs ht hvm hw_7 hP _ _ hS => ?_)
          have hP := kt_heap2 ht hP
          clear ht hFc
          have hP : va_P (dC, dI) vwCl (mW cI cZ cS cC cJ a w1) H := hP
          refine lv_istore_n (lv' := [(3, .int r_7), (2, .int k1), (0, .ref (a 0)), (1, .ref (a (9 + 3 * i)))]) hx hb dX5_goOn_30 rfl hl (by decide) rfl (fun ls hl => ?_)
          refine lv_iload_n hx hb dX5_goOn_31 rfl (lv_at hl 0 rfl) ?_
          refine lv_if_ne (tgt := 50) hx hb dX5_goOn_32 (by decide) (fun c_8 => ?_) (fun c_8 => ?_)
          · refine lv_aload_n hx hb dX5_goOn_50 rfl (lv_at hl 3 rfl) ?_
            refine lv_iload_n hx hb dX5_goOn_51 rfl (lv_at hl 0 rfl) ?_
            refine lv_aload_n hx hb dX5_goOn_52 rfl (lv_at hl 2 rfl) ?_
            refine va_get (D := (dC, dI)) (ci := 5) (v := .int (w1 0 6)) (C := RX5) (T := TX5) (N := 11) hx hb hts (fun w h => List.mem_cons_of_mem _ (inWX5 w h)) hown hK hP 0 at_0 rfl 6 (by decide) (hts _ (List.mem_cons_of_mem _ kw_t1_163)) (fun _ h9 => h9) rfl dX5_goOn_53 ?_
            refine lv_topi (fun t_9 et_9 => ?_)
            obtain rfl : t_2 = t_9 := et_2.trans et_9.symm
            refine lv_aload_n hx hb dX5_goOn_56 rfl (lv_at hl 2 rfl) ?_
            refine va_get (D := (dC, dI)) (ci := 5) (v := .ref (a 5)) (C := RX5) (T := TX5) (N := 11) hx hb hts (fun w h => List.mem_cons_of_mem _ (inWX5 w h)) hown hK hP 0 at_0 rfl 3 (by decide) (hts _ (List.mem_cons_of_mem _ kw_t1_160)) (fun _ h9 => h9) rfl dX5_goOn_57 ?_
            have hFc := mA_free (a := a) hS hA hAc
            refine va_callv (va_runV (As := [.int r_7, .int t_2, .ref (a 5)]) (rest := []) ⟨hx, hb, hml, hown, hts⟩ (c_X0_beginStep l dC dI cI cZ cS cC cJ a w1 H.size i hi r_7 t_2 hD hI.self) (cwV 3 hts (gV (fun w h => List.mem_cons_of_mem _ h) kw_t2_107 kw_t2_31 kw_t2_32 kw_t1_5 kw_t2_33) rfl rfl rfl (by decide +kernel) ⟨Nat.le_of_ble_eq_true rfl, Nat.le_of_ble_eq_true rfl⟩) ⟨fun av U g mk q => by obtain ⟨q0, q1, qP, qK, qN⟩ := q; exact ⟨q0, q1, qP, va_K.moved (u := U) (U := U.calling g mk av) (Vm.Alike.refl U.vm) qK, mN_same qN⟩, va_recv hK hP (ci := 0) (q0 := (9 + 3 * i)) rfl (at_C hi), fun U hU hW => ⟨rfl, by rw [hU], by rw [hU]; exact hP, va_K.moved hW.alike hK, mN_warm hW hN⟩⟩ rfl rfl hl.1 rfl (lv_room (Nat.le_of_ble_eq_true rfl)) dX5_goOn_60 ⟨Nat.le_of_ble_eq_true rfl, Nat.le_of_ble_eq_true rfl⟩) hS (fun q _ h => hFc q h) hFc (fun v_10 t H locs ht hvm hw_10 hP _ _ hS => ?_)
            have hP := kt_heap2 ht hP
            clear ht hFc
            have hP : va_P (dC, dI) vwCl (mW cI cZ cS cC cJ a v_10) H := hP
            have hI := hI.trans hw_10
            obtain ⟨t_11, et_11⟩ : ∃ y : Int32, y = k1 + 1 := ⟨_, rfl⟩
            refine lv_iinc (v := t_11) (lv' := [(2, .int t_11), (3, .int r_7), (0, .ref (a 0)), (1, .ref (a (9 + 3 * i)))]) hx hb dX5_goOn_63 hl (k := 1) rfl (by rw [et_11]; rfl) (by decide) rfl (fun ls hl => ?_)
            refine lv_goto (tgt := 2) hx hb dX5_goOn_66 (by decide) ?_
            have hi_12 : i1 < 5 := kt_lt (N := 5) rfl (by decide) ek1 hi1 c_1
            exact ih1 (i1 + 1) t_11 v_10 _ _ _ (by omega) (by omega) (by rw [et_11, ek1]; exact nI_1 i1) hP hS (lv_sub hl [0, 2, 3] rfl) hI
          · refine lv_aload_n hx hb dX5_goOn_35 rfl (lv_at hl 2 rfl) ?_
            refine va_get (D := (dC, dI)) (ci := 5) (v := .ref (a 7)) (C := RX5) (T := TX5) (N := 11) hx hb hts (fun w h => List.mem_cons_of_mem _ (inWX5 w h)) hown hK hP 0 at_0 rfl 4 (by decide) (hts _ (List.mem_cons_of_mem _ kw_t1_161)) (fun _ h9 => h9) rfl dX5_goOn_36 ?_
            refine lv_aload_n hx hb dX5_goOn_39 rfl (lv_at hl 3 rfl) ?_
            refine va_get (D := (dC, dI)) (ci := 0) (v := .int (w1 (9 + 3 * i) 3)) (C := RX0) (T := TX0) (N := 9) hx hb hts (fun w h => List.mem_cons_of_mem _ (inWX0 w h)) hown hK hP (9 + 3 * i) (at_C hi) rfl 3 (by decide) (hts _ (List.mem_cons_of_mem _ kw_t1_129)) (fun _ h9 => h9) rfl dX5_goOn_40 ?_
            refine lv_topi (fun t_13 et_13 => ?_)
            refine lv_aload_n hx hb dX5_goOn_43 rfl (lv_at hl 2 rfl) ?_
            refine va_get (D := (dC, dI)) (ci := 5) (v := .int (w1 0 6)) (C := RX5) (T := TX5) (N := 11) hx hb hts (fun w h => List.mem_cons_of_mem _ (inWX5 w h)) hown hK hP 0 at_0 rfl 6 (by decide) (hts _ (List.mem_cons_of_mem _ kw_t1_163)) (fun _ h9 => h9) rfl dX5_goOn_44 ?_
            refine lv_topi (fun t_14 et_14 => ?_)
            obtain rfl : t_2 = t_14 := et_2.trans et_14.symm
            have hFc := mA_free (a := a) hS hA hAc
            refine va_callv (va_runV (As := [.int t_13, .int t_2]) (rest := []) ⟨hx, hb, hml, hown, hts⟩ (c_X1_markOver l dC dI cI cZ cS cC cJ a w1 H.size t_13 t_2 hD hI.self) (cwV 2 hts (gV (fun w h => List.mem_cons_of_mem _ h) kw_t2_103 kw_t2_104 kw_t2_105 kw_t1_4 kw_t2_106) rfl rfl rfl (by decide +kernel) ⟨Nat.le_of_ble_eq_true rfl, Nat.le_of_ble_eq_true rfl⟩) ⟨fun av U g mk q => by obtain ⟨q0, q1, qP, qK, qN⟩ := q; exact ⟨q0, q1, qP, va_K.moved (u := U) (U := U.calling g mk av) (Vm.Alike.refl U.vm) qK, mN_same qN⟩, va_recv hK hP (ci := 1) (q0 := 7) rfl at_7, fun U hU hW => ⟨rfl, by rw [hU], by rw [hU]; exact hP, va_K.moved hW.alike hK, mN_warm hW hN⟩⟩ rfl rfl hl.1 rfl (lv_room (Nat.le_of_ble_eq_true rfl)) dX5_goOn_47 ⟨Nat.le_of_ble_eq_true rfl, Nat.le_of_ble_eq_true rfl⟩) hS (fun q _ h => hFc q h) hFc (fun v_15 t H locs ht hvm hw_15 hP _ _ hS => ?_)
            have hP := kt_heap2 ht hP
            clear ht hFc
            have hP : va_P (dC, dI) vwCl (mW cI cZ cS cC cJ a v_15) H := hP
            have hI := hI.trans hw_15
            refine lv_aload_n hx hb dX5_goOn_50 rfl (lv_at hl 3 rfl) ?_
            refine lv_iload_n hx hb dX5_goOn_51 rfl (lv_at hl 0 rfl) ?_
            refine lv_aload_n hx hb dX5_goOn_52 rfl (lv_at hl 2 rfl) ?_
            refine va_get (D := (dC, dI)) (ci := 5) (v := .int (v_15 0 6)) (C := RX5) (T := TX5) (N := 11) hx hb hts (fun w h => List.mem_cons_of_mem _ (inWX5 w h)) hown hK hP 0 at_0 rfl 6 (by decide) (hts _ (List.mem_cons_of_mem _ kw_t1_163)) (fun _ h9 => h9) rfl dX5_goOn_53 ?_
            refine lv_topi (fun t_16 et_16 => ?_)
            refine lv_aload_n hx hb dX5_goOn_56 rfl (lv_at hl 2 rfl) ?_
            refine va_get (D := (dC, dI)) (ci := 5) (v := .ref (a 5)) (C := RX5) (T := TX5) (N := 11) hx hb hts (fun w h => List.mem_cons_of_mem _ (inWX5 w h)) hown hK hP 0 at_0 rfl 3 (by decide) (hts _ (List.mem_cons_of_mem _ kw_t1_160)) (fun _ h9 => h9) rfl dX5_goOn_57 ?_
            have hFc := mA_free (a := a) hS hA hAc
            refine va_callv (va_runV (As := [.int r_7, .int t_16, .ref (a 5)]) (rest := []) ⟨hx, hb, hml, hown, hts⟩ (c_X0_beginStep l dC dI cI cZ cS cC cJ a v_15 H.size i hi r_7 t_16 hD hI.self) (cwV 3 hts (gV (fun w h => List.mem_cons_of_mem _ h) kw_t2_107 kw_t2_31 kw_t2_32 kw_t1_5 kw_t2_33) rfl rfl rfl (by decide +kernel) ⟨Nat.le_of_ble_eq_true rfl, Nat.le_of_ble_eq_true rfl⟩) ⟨fun av U g mk q => by obtain ⟨q0, q1, qP, qK, qN⟩ := q; exact ⟨q0, q1, qP, va_K.moved (u := U) (U := U.calling g mk av) (Vm.Alike.refl U.vm) qK, mN_same qN⟩, va_recv hK hP (ci := 0) (q0 := (9 + 3 * i)) rfl (at_C hi), fun U hU hW => ⟨rfl, by rw [hU], by rw [hU]; exact hP, va_K.moved hW.alike hK, mN_warm hW hN⟩⟩ rfl rfl hl.1 rfl (lv_room (Nat.le_of_ble_eq_true rfl)) dX5_goOn_60 ⟨Nat.le_of_ble_eq_true rfl, Nat.le_of_ble_eq_true rfl⟩) hS (fun q _ h => hFc q h) hFc (fun v_17 t H locs ht hvm hw_17 hP _ _ hS => ?_)
            have hP := kt_heap2 ht hP
            clear ht hFc
            have hP : va_P (dC, dI) vwCl (mW cI cZ cS cC cJ a v_17) H := hP
            have hI := hI.trans hw_17
            obtain ⟨t_18, et_18⟩ : ∃ y : Int32, y = k1 + 1 := ⟨_, rfl⟩
            refine lv_iinc (v := t_18) (lv' := [(2, .int t_18), (3, .int r_7), (0, .ref (a 0)), (1, .ref (a (9 + 3 * i)))]) hx hb dX5_goOn_63 hl (k := 1) rfl (by rw [et_18]; rfl) (by decide) rfl (fun ls hl => ?_)
            refine lv_goto (tgt := 2) hx hb dX5_goOn_66 (by decide) ?_
            have hi_19 : i1 < 5 := kt_lt (N := 5) rfl (by decide) ek1 hi1 c_1
            exact ih1 (i1 + 1) t_18 v_17 _ _ _ (by omega) (by omega) (by rw [et_18, ek1]; exact nI_1 i1) hP hS (lv_sub hl [0, 2, 3] rfl) hI
  exact key1 (5 + 1) 0 0 v _ _ _ (Nat.zero_le _) (by omega) rfl hP hS (lv_sub hl [0, 1, 2] rfl) hI

set_option maxHeartbeats 4000000 in
set_option maxRecDepth 100000 in
theorem c_X5_opens (l : Launch) (dC : Nat → ClassId) (dI : Nat → Nat → Nat) (cI cZ cS cC cJ : ClassId) (a : Nat → Nat) (v : Nat → Nat → Int32) (sz : Nat) (i : Nat) (hi : i < 12) (p1 p2 : Int32) (hD : mDD a) (hI : kI v v) : Met l yX5_opens (Cond.code yX5_opens cX5_opens 4 (some .boolean) :: WW) ({ frames := 2, cells := 0, slots := 0, locals := 60 }) (va_Pc [.ref (a 0), .ref (a (10 + 3 * i)), .int p1, .int p2] (fun U => U.heap.size = sz ∧ va_P (dC, dI) vwCl (mW cI cZ cS cC cJ a v) U.heap ∧ va_K (dC, dI) vwCl [(cI, .int), (cZ, .boolean), (cS, .object RX3), (cC, .object RX0), (cJ, .long)] U ∧ mN U)) (va_Qi (fun (r : Int32) (_u : Unit) => (r = 0 ∨ r = 1)) (fun (_ : Unit) (t : State) => va_P (dC, dI) vwCl (mW cI cZ cS cC cJ a v) t.heap) (mA a sz)) 0 0 (mA a sz) := by
  refine Met.ofW (cc := cX5_opens) (maxL := 4) (ret := (some .boolean)) (by decide) rfl ?_
  intro p e s m args below meth c s₁ B hml hv
  obtain ⟨rfl, hsz, hP, hK, hN⟩ := hv
  have hx := B.exec
  have hb := B.bytes
  have hr := B.returns
  have hts := atoms_spec (ws := Cond.code yX5_opens cX5_opens 4 (some .boolean) :: WW) B.pre
  have hown : s.vm.findClass RX5 = some m.cls := findClass_of_methodNamed B.named
  have hlocks := B.notSynchronized
  subst hsz
  have hAc : ∀ c, c < 81 → mA a s.heap.size (a c) := fun c h => Or.inl ⟨c, h, rfl⟩
  have hA : ∀ q : Nat, s.heap.size ≤ q → mA a s.heap.size q := fun q h => Or.inr h
  generalize hAe : mA a s.heap.size = A at hAc hA ⊢
  have hS : va_S A s.heap s.heap [] := va_S.rf
  have hl := lv_entry ([.ref (a 0), .ref (a (10 + 3 * i)), .int p1, .int p2]) (n := 4) (Nat.le_of_ble_eq_true rfl)
  rw [lg_entry_eq]
  generalize (lg_sl ([.ref (a 0), .ref (a (10 + 3 * i)), .int p1, .int p2]) ++ List.replicate (4 - (lg_sl ([.ref (a 0), .ref (a (10 + 3 * i)), .int p1, .int p2])).length) Slot.unset).toArray = ls at hl ⊢
  have hl : lv_has ls 4 [(0, .ref (a 0)), (1, .ref (a (10 + 3 * i))), (2, .int p1), (3, .int p2)] := hl
  refine lv_aload_n hx hb dX5_opens_0 rfl (lv_at hl 0 rfl) ?_
  refine va_get (D := (dC, dI)) (ci := 5) (v := .ref (a 5)) (C := RX5) (T := TX5) (N := 11) hx hb hts (fun w h => List.mem_cons_of_mem _ (inWX5 w h)) hown hK hP 0 at_0 rfl 3 (by decide) (hts _ (List.mem_cons_of_mem _ kw_t1_160)) (fun _ h9 => h9) rfl dX5_opens_1 ?_
  refine lv_bipush (v := 10) hx hb dX5_opens_4 (by decide) ?_
  refine lv_iload_n hx hb dX5_opens_6 rfl (lv_at hl 2 rfl) ?_
  refine lv_iadd hx hb dX5_opens_7 ?_
  refine lv_topi (fun t_1 et_1 => ?_)
  have hFc := mA_free (a := a) hS hA hAc
  refine va_calli (va_runV (As := [.int t_1]) (rest := []) ⟨hx, hb, hml, hown, hts⟩ (c_X2_isDown l dC dI cI cZ cS cC cJ a v s.heap.size t_1 hD hI.self) (cwV 1 hts (gV (fun w h => List.mem_cons_of_mem _ h) kw_t1_234 kw_t1_235 kw_t1_236 kw_t1_3 kw_t1_237) rfl rfl rfl (by decide +kernel) ⟨Nat.le_of_ble_eq_true rfl, Nat.le_of_ble_eq_true rfl⟩) ⟨fun av U g mk q => by obtain ⟨q0, q1, qP, qK, qN⟩ := q; exact ⟨q0, q1, qP, va_K.moved (u := U) (U := U.calling g mk av) (Vm.Alike.refl U.vm) qK, mN_same qN⟩, va_recv hK hP (ci := 2) (q0 := 5) rfl at_5, fun U hU hW => ⟨rfl, by rw [hU], by rw [hU]; exact hP, va_K.moved hW.alike hK, mN_warm hW hN⟩⟩ rfl rfl hl.1 rfl (lv_room (Nat.le_of_ble_eq_true rfl)) dX5_opens_8 ⟨Nat.le_of_ble_eq_true rfl, Nat.le_of_ble_eq_true rfl⟩) hS (fun q _ h => hFc q h) hFc (fun r_2 _ t H locs ht hvm hw_2 hP _ _ hS => ?_)
  have hP := kt_heap2 ht hP
  clear ht hFc
  have hP : va_P (dC, dI) vwCl (mW cI cZ cS cC cJ a v) H := hP
  refine lv_if_ne (tgt := 27) hx hb dX5_opens_11 (by decide) (fun c_3 => ?_) (fun c_3 => ?_)
  · refine lv_iconst (v := 0) hx hb dX5_opens_27 (by decide) ?_
    exact W.zret (v := 0) (ty := .boolean) hx hb hr rfl (fun t ht hW => ⟨⟨0, (), rfl, (Or.inl rfl), kt_heap ht hP⟩, hS.F ht⟩) hS.2.2 dX5_opens_28
  · refine lv_aload_n hx hb dX5_opens_14 rfl (lv_at hl 1 rfl) ?_
    refine lv_iload_n hx hb dX5_opens_15 rfl (lv_at hl 2 rfl) ?_
    refine lv_iload_n hx hb dX5_opens_16 rfl (lv_at hl 3 rfl) ?_
    have hFc := mA_free (a := a) hS hA hAc
    refine va_calli (va_runV (As := [.int p1, .int p2]) (rest := []) ⟨hx, hb, hml, hown, hts⟩ (c_X3_isGoodAt l dC dI cI cZ cS cC cJ a v H.size i hi p1 p2 hD hI.self) (cwV 2 hts (gV (fun w h => List.mem_cons_of_mem _ h) kw_t2_122 kw_t2_123 kw_t2_124 kw_t1_6 kw_t2_125) rfl rfl rfl (by decide +kernel) ⟨Nat.le_of_ble_eq_true rfl, Nat.le_of_ble_eq_true rfl⟩) ⟨fun av U g mk q => by obtain ⟨q0, q1, qP, qK, qN⟩ := q; exact ⟨q0, q1, qP, va_K.moved (u := U) (U := U.calling g mk av) (Vm.Alike.refl U.vm) qK, mN_same qN⟩, va_recv hK hP (ci := 3) (q0 := (10 + 3 * i)) rfl (at_S hi), fun U hU hW => ⟨rfl, by rw [hU], by rw [hU]; exact hP, va_K.moved hW.alike hK, mN_warm hW hN⟩⟩ rfl rfl hl.1 rfl (lv_room (Nat.le_of_ble_eq_true rfl)) dX5_opens_17 ⟨Nat.le_of_ble_eq_true rfl, Nat.le_of_ble_eq_true rfl⟩) hS (fun q _ h => hFc q h) hFc (fun r_4 _ t H locs ht hvm hw_4 hP _ _ hS => ?_)
    have hP := kt_heap2 ht hP
    clear ht hFc
    have hP : va_P (dC, dI) vwCl (mW cI cZ cS cC cJ a v) H := hP
    refine lv_if_eq (tgt := 27) hx hb dX5_opens_20 (by decide) (fun c_5 => ?_) (fun c_5 => ?_)
    · refine lv_iconst (v := 0) hx hb dX5_opens_27 (by decide) ?_
      exact W.zret (v := 0) (ty := .boolean) hx hb hr rfl (fun t ht hW => ⟨⟨0, (), rfl, (Or.inl rfl), kt_heap ht hP⟩, hS.F ht⟩) hS.2.2 dX5_opens_28
    · refine lv_iconst (v := 1) hx hb dX5_opens_23 (by decide) ?_
      refine lv_goto (tgt := 28) hx hb dX5_opens_24 (by decide) ?_
      exact W.zret (v := 1) (ty := .boolean) hx hb hr rfl (fun t ht hW => ⟨⟨1, (), rfl, (Or.inr rfl), kt_heap ht hP⟩, hS.F ht⟩) hS.2.2 dX5_opens_28

set_option maxHeartbeats 4000000 in
set_option maxRecDepth 100000 in
theorem c_X5_noteAsk (l : Launch) (dC : Nat → ClassId) (dI : Nat → Nat → Nat) (cI cZ cS cC cJ : ClassId) (a : Nat → Nat) (v : Nat → Nat → Int32) (sz : Nat) (i : Nat) (hi : i < 12) (p1 p2 p3 : Int32) (hD : mDD a) (hI : kI v v) : Met l yX5_noteAsk (Cond.code yX5_noteAsk cX5_noteAsk 5 (some .int) :: WW) ({ frames := 2, cells := 0, slots := 0, locals := 60 }) (va_Pc [.ref (a 0), .ref (a (9 + 3 * i)), .int p1, .int p2, .int p3] (fun U => U.heap.size = sz ∧ va_P (dC, dI) vwCl (mW cI cZ cS cC cJ a v) U.heap ∧ va_K (dC, dI) vwCl [(cI, .int), (cZ, .boolean), (cS, .object RX3), (cC, .object RX0), (cJ, .long)] U ∧ mN U)) (va_Qi (fun (r : Int32) (u : Nat → Nat → Int32) => kI v u) (fun (u : Nat → Nat → Int32) (t : State) => va_P (dC, dI) vwCl (mW cI cZ cS cC cJ a u) t.heap) (mA a sz)) 0 0 (mA a sz) := by
  refine Met.ofW (cc := cX5_noteAsk) (maxL := 5) (ret := (some .int)) (by decide) rfl ?_
  intro p e s m args below meth c s₁ B hml hv
  obtain ⟨rfl, hsz, hP, hK, hN⟩ := hv
  have hx := B.exec
  have hb := B.bytes
  have hr := B.returns
  have hts := atoms_spec (ws := Cond.code yX5_noteAsk cX5_noteAsk 5 (some .int) :: WW) B.pre
  have hown : s.vm.findClass RX5 = some m.cls := findClass_of_methodNamed B.named
  have hlocks := B.notSynchronized
  subst hsz
  have hAc : ∀ c, c < 81 → mA a s.heap.size (a c) := fun c h => Or.inl ⟨c, h, rfl⟩
  have hA : ∀ q : Nat, s.heap.size ≤ q → mA a s.heap.size q := fun q h => Or.inr h
  generalize hAe : mA a s.heap.size = A at hAc hA ⊢
  have hS : va_S A s.heap s.heap [] := va_S.rf
  have hl := lv_entry ([.ref (a 0), .ref (a (9 + 3 * i)), .int p1, .int p2, .int p3]) (n := 5) (Nat.le_of_ble_eq_true rfl)
  rw [lg_entry_eq]
  generalize (lg_sl ([.ref (a 0), .ref (a (9 + 3 * i)), .int p1, .int p2, .int p3]) ++ List.replicate (5 - (lg_sl ([.ref (a 0), .ref (a (9 + 3 * i)), .int p1, .int p2, .int p3])).length) Slot.unset).toArray = ls at hl ⊢
  have hl : lv_has ls 5 [(0, .ref (a 0)), (1, .ref (a (9 + 3 * i))), (2, .int p1), (3, .int p2), (4, .int p3)] := hl
  refine lv_iload hx hb dX5_noteAsk_0 (lv_at hl 4 rfl) ?_
  refine lv_if_ne (tgt := 17) hx hb dX5_noteAsk_2 (by decide) (fun c_1 => ?_) (fun c_1 => ?_)
  · refine lv_aload_n hx hb dX5_noteAsk_17 rfl (lv_at hl 0 rfl) ?_
    refine lv_dup hx hb dX5_noteAsk_18 rfl ?_
    refine va_get (D := (dC, dI)) (ci := 5) (v := .int (v 0 9)) (C := RX5) (T := TX5) (N := 11) hx hb hts (fun w h => List.mem_cons_of_mem _ (inWX5 w h)) hown hK hP 0 at_0 rfl 9 (by decide) (hts _ (List.mem_cons_of_mem _ kw_t1_166)) (fun _ h9 => h9) rfl dX5_noteAsk_19 ?_
    refine lv_topi (fun t_2 et_2 => ?_)
    refine lv_iconst (v := 1) hx hb dX5_noteAsk_22 (by decide) ?_
    refine lv_iadd hx hb dX5_noteAsk_23 ?_
    refine lv_topi (fun t_3 et_3 => ?_)
    refine va_put (D := (dC, dI)) (ci := 5) (v := .int t_3) (ty := .int) (C := RX5) (T := TX5) (N := 11) hx hb hts (fun w h => List.mem_cons_of_mem _ (inWX5 w h)) tyX5 tyX5_ok nmX5 hown hK hP (mD_of hD hAc) hS 0 at_0 rfl 9 (by decide) (hts _ (List.mem_cons_of_mem _ kw_t1_166)) (fun _ h9 => h9) rfl (by decide +kernel) rfl rfl (Nat.le_of_ble_eq_true rfl) dX5_noteAsk_24 (fun H locs hP _ hS => ?_)
    obtain ⟨v_4, ev_4⟩ : ∃ z, z = mU v 0 (upd (v 0) 9 t_3) := ⟨_, rfl⟩
    have hP : va_P (dC, dI) vwCl (mW cI cZ cS cC cJ a v_4) H := by rw [ev_4]; exact mW_put hP (by omega) rfl
    have hI := hI.putK ev_4 (by decide)
    refine lv_aload_n hx hb dX5_noteAsk_27 rfl (lv_at hl 1 rfl) ?_
    refine lv_iload_n hx hb dX5_noteAsk_28 rfl (lv_at hl 2 rfl) ?_
    refine lv_iload_n hx hb dX5_noteAsk_29 rfl (lv_at hl 3 rfl) ?_
    refine lv_aload_n hx hb dX5_noteAsk_30 rfl (lv_at hl 0 rfl) ?_
    refine va_get (D := (dC, dI)) (ci := 5) (v := .int (v_4 0 6)) (C := RX5) (T := TX5) (N := 11) hx hb hts (fun w h => List.mem_cons_of_mem _ (inWX5 w h)) hown hK hP 0 at_0 rfl 6 (by decide) (hts _ (List.mem_cons_of_mem _ kw_t1_163)) (fun _ h9 => h9) rfl dX5_noteAsk_31 ?_
    refine lv_topi (fun t_5 et_5 => ?_)
    have hFc := mA_free (a := a) hS hA hAc
    refine va_callv (va_runV (As := [.int p1, .int p2, .int t_5]) (rest := []) ⟨hx, hb, hml, hown, hts⟩ (c_X0_notePass l dC dI cI cZ cS cC cJ a v_4 H.size i hi p1 p2 t_5 hD hI.self) (cwV 3 hts (gV (fun w h => List.mem_cons_of_mem _ h) kw_t2_130 kw_t2_131 kw_t2_132 kw_t1_5 kw_t2_133) rfl rfl rfl (by decide +kernel) ⟨Nat.le_of_ble_eq_true rfl, Nat.le_of_ble_eq_true rfl⟩) ⟨fun av U g mk q => by obtain ⟨q0, q1, qP, qK, qN⟩ := q; exact ⟨q0, q1, qP, va_K.moved (u := U) (U := U.calling g mk av) (Vm.Alike.refl U.vm) qK, mN_same qN⟩, va_recv hK hP (ci := 0) (q0 := (9 + 3 * i)) rfl (at_C hi), fun U hU hW => ⟨rfl, by rw [hU], by rw [hU]; exact hP, va_K.moved hW.alike hK, mN_warm hW hN⟩⟩ rfl rfl hl.1 rfl (lv_room (Nat.le_of_ble_eq_true rfl)) dX5_noteAsk_34 ⟨Nat.le_of_ble_eq_true rfl, Nat.le_of_ble_eq_true rfl⟩) hS (fun q _ h => hFc q h) hFc (fun v_6 t H locs ht hvm hw_6 hP _ _ hS => ?_)
    have hP := kt_heap2 ht hP
    clear ht hFc
    have hP : va_P (dC, dI) vwCl (mW cI cZ cS cC cJ a v_6) H := hP
    have hI := hI.trans hw_6
    refine lv_iconst (v := 1) hx hb dX5_noteAsk_37 (by decide) ?_
    exact W.iret (v := 1) hx hb hr (fun t ht hW => ⟨⟨1, v_6, rfl, hI, kt_heap ht hP⟩, hS.F ht⟩) hS.2.2 dX5_noteAsk_38
  · refine lv_aload_n hx hb dX5_noteAsk_5 rfl (lv_at hl 0 rfl) ?_
    refine lv_dup hx hb dX5_noteAsk_6 rfl ?_
    refine va_get (D := (dC, dI)) (ci := 5) (v := .int (v 0 10)) (C := RX5) (T := TX5) (N := 11) hx hb hts (fun w h => List.mem_cons_of_mem _ (inWX5 w h)) hown hK hP 0 at_0 rfl 10 (by decide) (hts _ (List.mem_cons_of_mem _ kw_t1_167)) (fun _ h9 => h9) rfl dX5_noteAsk_7 ?_
    refine lv_topi (fun t_7 et_7 => ?_)
    refine lv_iconst (v := 1) hx hb dX5_noteAsk_10 (by decide) ?_
    refine lv_iadd hx hb dX5_noteAsk_11 ?_
    refine lv_topi (fun t_8 et_8 => ?_)
    refine va_put (D := (dC, dI)) (ci := 5) (v := .int t_8) (ty := .int) (C := RX5) (T := TX5) (N := 11) hx hb hts (fun w h => List.mem_cons_of_mem _ (inWX5 w h)) tyX5 tyX5_ok nmX5 hown hK hP (mD_of hD hAc) hS 0 at_0 rfl 10 (by decide) (hts _ (List.mem_cons_of_mem _ kw_t1_167)) (fun _ h9 => h9) rfl (by decide +kernel) rfl rfl (Nat.le_of_ble_eq_true rfl) dX5_noteAsk_12 (fun H locs hP _ hS => ?_)
    obtain ⟨v_9, ev_9⟩ : ∃ z, z = mU v 0 (upd (v 0) 10 t_8) := ⟨_, rfl⟩
    have hP : va_P (dC, dI) vwCl (mW cI cZ cS cC cJ a v_9) H := by rw [ev_9]; exact mW_put hP (by omega) rfl
    have hI := hI.putK ev_9 (by decide)
    refine lv_iconst (v := 0) hx hb dX5_noteAsk_15 (by decide) ?_
    exact W.iret (v := 0) hx hb hr (fun t ht hW => ⟨⟨0, v_9, rfl, hI, kt_heap ht hP⟩, hS.F ht⟩) hS.2.2 dX5_noteAsk_16
