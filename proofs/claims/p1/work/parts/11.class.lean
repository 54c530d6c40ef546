set_option maxHeartbeats 4000000 in
set_option maxRecDepth 100000 in
theorem c_X5_needs (l : Launch) (dC : Nat → ClassId) (dI : Nat → Nat → Nat) (cI cZ cS cC : ClassId) (h0 sz : Nat) (qa : Nat → Nat) (p0 p1 p2 : Int32) : Met l yX5_needs (Cond.code yX5_needs cX5_needs 4 (some .boolean) :: WW) ({ frames := 1, cells := 0, slots := 0, locals := 30 }) (va_Pc [.ref h0, .int p0, .int p1, .int p2] (fun U => U.heap.size = sz ∧ va_P (dC, dI) vwCl [(h0, .inr (5, [.ref (qa 0), .ref (qa 1), .ref (qa 2), .ref (qa 3), .ref (qa 4), .int 0, .int 0, .int 10, .int 100, .int 0, .int 0]))] U.heap ∧ va_K (dC, dI) vwCl [(cI, .int), (cZ, .boolean), (cS, .object RX3), (cC, .object RX0)] U ∧ va_D (fun _ => True) [(h0, .inr (5, [.ref (qa 0), .ref (qa 1), .ref (qa 2), .ref (qa 3), .ref (qa 4), .int 0, .int 0, .int 10, .int 100, .int 0, .int 0]))])) (va_Qi (fun (r : Int32) (_ : Unit) => r = 0) (fun (_ : Unit) (_ : State) => True) (va_A [] sz)) 0 0 (va_A [] sz) := by
  refine Met.ofW (cc := cX5_needs) (maxL := 4) (ret := (some .boolean)) (by decide) rfl ?_
  intro p e s m args below meth c s₁ B hml hv
  obtain ⟨rfl, hsz, hP, hK, hD0⟩ := hv
  have hx := B.exec
  have hb := B.bytes
  have hr := B.returns
  have hts := atoms_spec (ws := Cond.code yX5_needs cX5_needs 4 (some .boolean) :: WW) B.pre
  have hown : s.vm.findClass RX5 = some m.cls := findClass_of_methodNamed B.named
  have hlocks := B.notSynchronized
  subst hsz
  have hD := hD0
  generalize hAe : va_A [] s.heap.size = A
  have hA : ∀ q : Nat, s.heap.size ≤ q → A q := fun q h => by rw [← hAe]; exact Or.inr h
  have hS : va_S A s.heap s.heap [] := va_S.rf
  have hP : va_P (dC, dI) vwCl [(h0, .inr (5, [.ref (qa 0), .ref (qa 1), .ref (qa 2), .ref (qa 3), .ref (qa 4), .int 0, .int 0, .int 10, .int 100, .int 0, .int 0]))] s.heap := hP
  have hl := lv_entry ([.ref h0, .int p0, .int p1, .int p2]) (n := 4) (Nat.le_of_ble_eq_true rfl)
  rw [lg_entry_eq]
  generalize (lg_sl ([.ref h0, .int p0, .int p1, .int p2]) ++ List.replicate (4 - (lg_sl ([.ref h0, .int p0, .int p1, .int p2])).length) Slot.unset).toArray = ls at hl ⊢
  have hl : lv_has ls 4 [(0, .ref h0), (1, .int p0), (2, .int p1), (3, .int p2)] := hl
  refine lv_aload_n hx hb dX5_needs_0 rfl (lv_at hl 0 rfl) ?_
  refine lv_iload_n hx hb dX5_needs_1 rfl (lv_at hl 1 rfl) ?_
  have hPc := hP.sub (ws' := [(h0, .inr (5, [.ref (qa 0), .ref (qa 1), .ref (qa 2), .ref (qa 3), .ref (qa 4), .int 0, .int 0, .int 10, .int 100, .int 0, .int 0]))]) [0] rfl
  have hDc := hD.sub (ws' := [(h0, .inr (5, [.ref (qa 0), .ref (qa 1), .ref (qa 2), .ref (qa 3), .ref (qa 4), .int 0, .int 0, .int 10, .int 100, .int 0, .int 0]))]) [0] (by decide) rfl
  have hFc : ∀ q, va_A ([] : va_W) s.heap.size q → A q := va_free (wc := []) (ws := []) kt_D0 hS hA [] rfl
  refine va_calli (va_runV (As := [.int p0]) (rest := []) ⟨hx, hb, hml, hown, hts⟩ (c_X5_isSecret l dC dI cI cZ cS cC h0 s.heap.size qa p0) (cwV 1 hts (gV (fun w h => List.mem_cons_of_mem _ h) kw_6 kw_7 kw_8 kw_9 kw_5) rfl rfl rfl (by decide +kernel) ⟨Nat.le_of_ble_eq_true rfl, Nat.le_of_ble_eq_true rfl⟩) ⟨fun a U g mk q => by obtain ⟨q0, q1, qP, qK, qD⟩ := q; exact ⟨q0, q1, qP, va_K.moved (u := U) (U := U.calling g mk a) (Vm.Alike.refl U.vm) qK, qD⟩, va_recv hK hP (ci := 5) (q0 := 0) rfl rfl, fun U hU hW => ⟨rfl, by rw [hU], by rw [hU]; exact hPc, va_K.moved hW.alike hK, hDc.weaken (fun _ _ _ _ => trivial)⟩⟩ rfl rfl hl.1 rfl (lv_room (Nat.le_of_ble_eq_true rfl)) dX5_needs_2 ⟨Nat.le_of_ble_eq_true rfl, Nat.le_of_ble_eq_true rfl⟩) hS (fun q _ h => hFc q h) hFc (fun r_1 u_1 t H1 locs ht hvm hw_1 hB hz1 hk1 hS => ?_)
  obtain ⟨hP, hD⟩ := va_join (A0 := fun _ => True) (wc := []) (wr := [(h0, .inr (5, [.ref (qa 0), .ref (qa 1), .ref (qa 2), .ref (qa 3), .ref (qa 4), .int 0, .int 0, .int 10, .int 100, .int 0, .int 0]))]) (w1 := []) hP hD [] [0] rfl rfl (by decide) (by decide) hk1 (fun _ _ => trivial) kt_P0 kt_D0
  generalize H1 = H at hP hS ⊢
  have hP : va_P (dC, dI) vwCl [(h0, .inr (5, [.ref (qa 0), .ref (qa 1), .ref (qa 2), .ref (qa 3), .ref (qa 4), .int 0, .int 0, .int 10, .int 100, .int 0, .int 0]))] H := hP
  have hD : va_D (fun _ => True) [(h0, .inr (5, [.ref (qa 0), .ref (qa 1), .ref (qa 2), .ref (qa 3), .ref (qa 4), .int 0, .int 0, .int 10, .int 100, .int 0, .int 0]))] := hD
  subst hw_1
  refine lv_if_eq (tgt := 29) hx hb dX5_needs_5 (by decide) (fun c_2 => ?_) (fun c_2 => absurd (by decide) c_2)
  refine lv_iconst (v := 0) hx hb dX5_needs_29 (by decide) ?_
  exact W.zret (v := 0) (ty := .boolean) hx hb hr rfl (fun t ht hW => ⟨⟨0, (), rfl, rfl, trivial⟩, hS.F ht⟩) hS.2.2 dX5_needs_30

set_option maxHeartbeats 4000000 in
set_option maxRecDepth 100000 in
theorem c_X5_turn (l : Launch) (dC : Nat → ClassId) (dI : Nat → Nat → Nat) (cI cZ cS cC : ClassId) (h0 sz : Nat) (qa : Nat → Nat) (p0 : Int32) : Met l yX5_turn (Cond.code yX5_turn cX5_turn 2 (some .int) :: WW) ({ frames := 1, cells := 0, slots := 0, locals := 30 }) (va_Pc [.ref h0, .int p0] (fun U => U.heap.size = sz ∧ va_P (dC, dI) vwCl [(h0, .inr (5, [.ref (qa 0), .ref (qa 1), .ref (qa 2), .ref (qa 3), .ref (qa 4), .int 0, .int 0, .int 10, .int 100, .int 0, .int 0]))] U.heap ∧ va_K (dC, dI) vwCl [(cI, .int), (cZ, .boolean), (cS, .object RX3), (cC, .object RX0)] U ∧ va_D (fun _ => True) [(h0, .inr (5, [.ref (qa 0), .ref (qa 1), .ref (qa 2), .ref (qa 3), .ref (qa 4), .int 0, .int 0, .int 10, .int 100, .int 0, .int 0]))])) (va_Qi (fun (r : Int32) (_ : Unit) => r = (-1)) (fun (_ : Unit) (_ : State) => True) (va_A [] sz)) 0 0 (va_A [] sz) := by
  refine Met.ofW (cc := cX5_turn) (maxL := 2) (ret := (some .int)) (by decide) rfl ?_
  intro p e s m args below meth c s₁ B hml hv
  obtain ⟨rfl, hsz, hP, hK, hD0⟩ := hv
  have hx := B.exec
  have hb := B.bytes
  have hr := B.returns
  have hts := atoms_spec (ws := Cond.code yX5_turn cX5_turn 2 (some .int) :: WW) B.pre
  have hown : s.vm.findClass RX5 = some m.cls := findClass_of_methodNamed B.named
  have hlocks := B.notSynchronized
  subst hsz
  have hD := hD0
  generalize hAe : va_A [] s.heap.size = A
  have hA : ∀ q : Nat, s.heap.size ≤ q → A q := fun q h => by rw [← hAe]; exact Or.inr h
  have hS : va_S A s.heap s.heap [] := va_S.rf
  have hP : va_P (dC, dI) vwCl [(h0, .inr (5, [.ref (qa 0), .ref (qa 1), .ref (qa 2), .ref (qa 3), .ref (qa 4), .int 0, .int 0, .int 10, .int 100, .int 0, .int 0]))] s.heap := hP
  have hl := lv_entry ([.ref h0, .int p0]) (n := 2) (Nat.le_of_ble_eq_true rfl)
  rw [lg_entry_eq]
  generalize (lg_sl ([.ref h0, .int p0]) ++ List.replicate (2 - (lg_sl ([.ref h0, .int p0])).length) Slot.unset).toArray = ls at hl ⊢
  have hl : lv_has ls 2 [(0, .ref h0), (1, .int p0)] := hl
  refine lv_aload_n hx hb dX5_turn_0 rfl (lv_at hl 0 rfl) ?_
  refine lv_iload_n hx hb dX5_turn_1 rfl (lv_at hl 1 rfl) ?_
  have hPc := hP.sub (ws' := [(h0, .inr (5, [.ref (qa 0), .ref (qa 1), .ref (qa 2), .ref (qa 3), .ref (qa 4), .int 0, .int 0, .int 10, .int 100, .int 0, .int 0]))]) [0] rfl
  have hDc := hD.sub (ws' := [(h0, .inr (5, [.ref (qa 0), .ref (qa 1), .ref (qa 2), .ref (qa 3), .ref (qa 4), .int 0, .int 0, .int 10, .int 100, .int 0, .int 0]))]) [0] (by decide) rfl
  have hFc : ∀ q, va_A ([] : va_W) s.heap.size q → A q := va_free (wc := []) (ws := []) kt_D0 hS hA [] rfl
  refine va_calli (va_runV (As := [.int p0]) (rest := []) ⟨hx, hb, hml, hown, hts⟩ (c_X5_isSecret l dC dI cI cZ cS cC h0 s.heap.size qa p0) (cwV 1 hts (gV (fun w h => List.mem_cons_of_mem _ h) kw_6 kw_7 kw_8 kw_9 kw_5) rfl rfl rfl (by decide +kernel) ⟨Nat.le_of_ble_eq_true rfl, Nat.le_of_ble_eq_true rfl⟩) ⟨fun a U g mk q => by obtain ⟨q0, q1, qP, qK, qD⟩ := q; exact ⟨q0, q1, qP, va_K.moved (u := U) (U := U.calling g mk a) (Vm.Alike.refl U.vm) qK, qD⟩, va_recv hK hP (ci := 5) (q0 := 0) rfl rfl, fun U hU hW => ⟨rfl, by rw [hU], by rw [hU]; exact hPc, va_K.moved hW.alike hK, hDc.weaken (fun _ _ _ _ => trivial)⟩⟩ rfl rfl hl.1 rfl (lv_room (Nat.le_of_ble_eq_true rfl)) dX5_turn_2 ⟨Nat.le_of_ble_eq_true rfl, Nat.le_of_ble_eq_true rfl⟩) hS (fun q _ h => hFc q h) hFc (fun r_1 u_1 t H1 locs ht hvm hw_1 hB hz1 hk1 hS => ?_)
  obtain ⟨hP, hD⟩ := va_join (A0 := fun _ => True) (wc := []) (wr := [(h0, .inr (5, [.ref (qa 0), .ref (qa 1), .ref (qa 2), .ref (qa 3), .ref (qa 4), .int 0, .int 0, .int 10, .int 100, .int 0, .int 0]))]) (w1 := []) hP hD [] [0] rfl rfl (by decide) (by decide) hk1 (fun _ _ => trivial) kt_P0 kt_D0
  generalize H1 = H at hP hS ⊢
  have hP : va_P (dC, dI) vwCl [(h0, .inr (5, [.ref (qa 0), .ref (qa 1), .ref (qa 2), .ref (qa 3), .ref (qa 4), .int 0, .int 0, .int 10, .int 100, .int 0, .int 0]))] H := hP
  have hD : va_D (fun _ => True) [(h0, .inr (5, [.ref (qa 0), .ref (qa 1), .ref (qa 2), .ref (qa 3), .ref (qa 4), .int 0, .int 0, .int 10, .int 100, .int 0, .int 0]))] := hD
  subst hw_1
  refine lv_if_eq (tgt := 28) hx hb dX5_turn_5 (by decide) (fun c_2 => ?_) (fun c_2 => absurd (by decide) c_2)
  refine lv_iconst (v := (-1)) hx hb dX5_turn_28 (by decide) ?_
  exact W.iret (v := (-1)) hx hb hr (fun t ht hW => ⟨⟨(-1), (), rfl, rfl, trivial⟩, hS.F ht⟩) hS.2.2 dX5_turn_29

set_option maxHeartbeats 4000000 in
set_option maxRecDepth 100000 in
theorem c_X5_stolen (l : Launch) (dC : Nat → ClassId) (dI : Nat → Nat → Nat) (cI cZ cS cC : ClassId) (h0 sz : Nat) (qa : Nat → Nat) (p0 : Int32) : Met l yX5_stolen (Cond.code yX5_stolen cX5_stolen 3 (some .int) :: WW) ({ frames := 1, cells := 0, slots := 0, locals := 30 }) (va_Pc [.ref h0, .int p0] (fun U => U.heap.size = sz ∧ va_P (dC, dI) vwCl [(h0, .inr (5, [.ref (qa 0), .ref (qa 1), .ref (qa 2), .ref (qa 3), .ref (qa 4), .int 0, .int 0, .int 10, .int 100, .int 0, .int 0]))] U.heap ∧ va_K (dC, dI) vwCl [(cI, .int), (cZ, .boolean), (cS, .object RX3), (cC, .object RX0)] U ∧ va_D (fun _ => True) [(h0, .inr (5, [.ref (qa 0), .ref (qa 1), .ref (qa 2), .ref (qa 3), .ref (qa 4), .int 0, .int 0, .int 10, .int 100, .int 0, .int 0]))])) (va_Qi (fun (r : Int32) (_ : Unit) => r = (-1)) (fun (_ : Unit) (_ : State) => True) (va_A [] sz)) 0 0 (va_A [] sz) := by
  refine Met.ofW (cc := cX5_stolen) (maxL := 3) (ret := (some .int)) (by decide) rfl ?_
  intro p e s m args below meth c s₁ B hml hv
  obtain ⟨rfl, hsz, hP, hK, hD0⟩ := hv
  have hx := B.exec
  have hb := B.bytes
  have hr := B.returns
  have hts := atoms_spec (ws := Cond.code yX5_stolen cX5_stolen 3 (some .int) :: WW) B.pre
  have hown : s.vm.findClass RX5 = some m.cls := findClass_of_methodNamed B.named
  have hlocks := B.notSynchronized
  subst hsz
  have hD := hD0
  generalize hAe : va_A [] s.heap.size = A
  have hA : ∀ q : Nat, s.heap.size ≤ q → A q := fun q h => by rw [← hAe]; exact Or.inr h
  have hS : va_S A s.heap s.heap [] := va_S.rf
  have hP : va_P (dC, dI) vwCl [(h0, .inr (5, [.ref (qa 0), .ref (qa 1), .ref (qa 2), .ref (qa 3), .ref (qa 4), .int 0, .int 0, .int 10, .int 100, .int 0, .int 0]))] s.heap := hP
  have hl := lv_entry ([.ref h0, .int p0]) (n := 3) (Nat.le_of_ble_eq_true rfl)
  rw [lg_entry_eq]
  generalize (lg_sl ([.ref h0, .int p0]) ++ List.replicate (3 - (lg_sl ([.ref h0, .int p0])).length) Slot.unset).toArray = ls at hl ⊢
  have hl : lv_has ls 3 [(0, .ref h0), (1, .int p0)] := hl
  refine lv_aload_n hx hb dX5_stolen_0 rfl (lv_at hl 0 rfl) ?_
  refine lv_iload_n hx hb dX5_stolen_1 rfl (lv_at hl 1 rfl) ?_
  have hPc := hP.sub (ws' := [(h0, .inr (5, [.ref (qa 0), .ref (qa 1), .ref (qa 2), .ref (qa 3), .ref (qa 4), .int 0, .int 0, .int 10, .int 100, .int 0, .int 0]))]) [0] rfl
  have hDc := hD.sub (ws' := [(h0, .inr (5, [.ref (qa 0), .ref (qa 1), .ref (qa 2), .ref (qa 3), .ref (qa 4), .int 0, .int 0, .int 10, .int 100, .int 0, .int 0]))]) [0] (by decide) rfl
  have hFc : ∀ q, va_A ([] : va_W) s.heap.size q → A q := va_free (wc := []) (ws := []) kt_D0 hS hA [] rfl
  refine va_calli (va_runV (As := [.int p0]) (rest := []) ⟨hx, hb, hml, hown, hts⟩ (c_X5_isSecret l dC dI cI cZ cS cC h0 s.heap.size qa p0) (cwV 1 hts (gV (fun w h => List.mem_cons_of_mem _ h) kw_6 kw_7 kw_8 kw_9 kw_5) rfl rfl rfl (by decide +kernel) ⟨Nat.le_of_ble_eq_true rfl, Nat.le_of_ble_eq_true rfl⟩) ⟨fun a U g mk q => by obtain ⟨q0, q1, qP, qK, qD⟩ := q; exact ⟨q0, q1, qP, va_K.moved (u := U) (U := U.calling g mk a) (Vm.Alike.refl U.vm) qK, qD⟩, va_recv hK hP (ci := 5) (q0 := 0) rfl rfl, fun U hU hW => ⟨rfl, by rw [hU], by rw [hU]; exact hPc, va_K.moved hW.alike hK, hDc.weaken (fun _ _ _ _ => trivial)⟩⟩ rfl rfl hl.1 rfl (lv_room (Nat.le_of_ble_eq_true rfl)) dX5_stolen_2 ⟨Nat.le_of_ble_eq_true rfl, Nat.le_of_ble_eq_true rfl⟩) hS (fun q _ h => hFc q h) hFc (fun r_1 u_1 t H1 locs ht hvm hw_1 hB hz1 hk1 hS => ?_)
  obtain ⟨hP, hD⟩ := va_join (A0 := fun _ => True) (wc := []) (wr := [(h0, .inr (5, [.ref (qa 0), .ref (qa 1), .ref (qa 2), .ref (qa 3), .ref (qa 4), .int 0, .int 0, .int 10, .int 100, .int 0, .int 0]))]) (w1 := []) hP hD [] [0] rfl rfl (by decide) (by decide) hk1 (fun _ _ => trivial) kt_P0 kt_D0
  generalize H1 = H at hP hS ⊢
  have hP : va_P (dC, dI) vwCl [(h0, .inr (5, [.ref (qa 0), .ref (qa 1), .ref (qa 2), .ref (qa 3), .ref (qa 4), .int 0, .int 0, .int 10, .int 100, .int 0, .int 0]))] H := hP
  have hD : va_D (fun _ => True) [(h0, .inr (5, [.ref (qa 0), .ref (qa 1), .ref (qa 2), .ref (qa 3), .ref (qa 4), .int 0, .int 0, .int 10, .int 100, .int 0, .int 0]))] := hD
  subst hw_1
  refine lv_if_eq (tgt := 20) hx hb dX5_stolen_5 (by decide) (fun c_2 => ?_) (fun c_2 => absurd (by decide) c_2)
  refine lv_iconst (v := (-1)) hx hb dX5_stolen_20 (by decide) ?_
  exact W.iret (v := (-1)) hx hb hr (fun t ht hW => ⟨⟨(-1), (), rfl, rfl, trivial⟩, hS.F ht⟩) hS.2.2 dX5_stolen_21

set_option maxHeartbeats 4000000 in
set_option maxRecDepth 100000 in
theorem c_X5_ask (l : Launch) (dC : Nat → ClassId) (dI : Nat → Nat → Nat) (cI cZ cS cC : ClassId) (h0 sz : Nat) (qa : Nat → Nat) (p0 p1 p2 : Int32) : Met l yX5_ask (Cond.code yX5_ask cX5_ask 7 (some .int) :: WW) ({ frames := 1, cells := 0, slots := 0, locals := 30 }) (va_Pc [.ref h0, .int p0, .int p1, .int p2] (fun U => U.heap.size = sz ∧ va_P (dC, dI) vwCl [(h0, .inr (5, [.ref (qa 0), .ref (qa 1), .ref (qa 2), .ref (qa 3), .ref (qa 4), .int 0, .int 0, .int 10, .int 100, .int 0, .int 0]))] U.heap ∧ va_K (dC, dI) vwCl [(cI, .int), (cZ, .boolean), (cS, .object RX3), (cC, .object RX0)] U ∧ va_D (fun _ => True) [(h0, .inr (5, [.ref (qa 0), .ref (qa 1), .ref (qa 2), .ref (qa 3), .ref (qa 4), .int 0, .int 0, .int 10, .int 100, .int 0, .int 0]))])) (va_Qi (fun (r : Int32) (_ : Unit) => r = (-1)) (fun (_ : Unit) (_ : State) => True) (va_A [] sz)) 0 0 (va_A [] sz) := by
  refine Met.ofW (cc := cX5_ask) (maxL := 7) (ret := (some .int)) (by decide) rfl ?_
  intro p e s m args below meth c s₁ B hml hv
  obtain ⟨rfl, hsz, hP, hK, hD0⟩ := hv
  have hx := B.exec
  have hb := B.bytes
  have hr := B.returns
  have hts := atoms_spec (ws := Cond.code yX5_ask cX5_ask 7 (some .int) :: WW) B.pre
  have hown : s.vm.findClass RX5 = some m.cls := findClass_of_methodNamed B.named
  have hlocks := B.notSynchronized
  subst hsz
  have hD := hD0
  generalize hAe : va_A [] s.heap.size = A
  have hA : ∀ q : Nat, s.heap.size ≤ q → A q := fun q h => by rw [← hAe]; exact Or.inr h
  have hS : va_S A s.heap s.heap [] := va_S.rf
  have hP : va_P (dC, dI) vwCl [(h0, .inr (5, [.ref (qa 0), .ref (qa 1), .ref (qa 2), .ref (qa 3), .ref (qa 4), .int 0, .int 0, .int 10, .int 100, .int 0, .int 0]))] s.heap := hP
  have hl := lv_entry ([.ref h0, .int p0, .int p1, .int p2]) (n := 7) (Nat.le_of_ble_eq_true rfl)
  rw [lg_entry_eq]
  generalize (lg_sl ([.ref h0, .int p0, .int p1, .int p2]) ++ List.replicate (7 - (lg_sl ([.ref h0, .int p0, .int p1, .int p2])).length) Slot.unset).toArray = ls at hl ⊢
  have hl : lv_has ls 7 [(0, .ref h0), (1, .int p0), (2, .int p1), (3, .int p2)] := hl
  refine lv_aload_n hx hb dX5_ask_0 rfl (lv_at hl 0 rfl) ?_
  refine lv_iload_n hx hb dX5_ask_1 rfl (lv_at hl 2 rfl) ?_
  have hPc := hP.sub (ws' := [(h0, .inr (5, [.ref (qa 0), .ref (qa 1), .ref (qa 2), .ref (qa 3), .ref (qa 4), .int 0, .int 0, .int 10, .int 100, .int 0, .int 0]))]) [0] rfl
  have hDc := hD.sub (ws' := [(h0, .inr (5, [.ref (qa 0), .ref (qa 1), .ref (qa 2), .ref (qa 3), .ref (qa 4), .int 0, .int 0, .int 10, .int 100, .int 0, .int 0]))]) [0] (by decide) rfl
  have hFc : ∀ q, va_A ([] : va_W) s.heap.size q → A q := va_free (wc := []) (ws := []) kt_D0 hS hA [] rfl
  refine va_calli (va_runV (As := [.int p1]) (rest := []) ⟨hx, hb, hml, hown, hts⟩ (c_X5_isSecret l dC dI cI cZ cS cC h0 s.heap.size qa p1) (cwV 1 hts (gV (fun w h => List.mem_cons_of_mem _ h) kw_6 kw_7 kw_8 kw_9 kw_5) rfl rfl rfl (by decide +kernel) ⟨Nat.le_of_ble_eq_true rfl, Nat.le_of_ble_eq_true rfl⟩) ⟨fun a U g mk q => by obtain ⟨q0, q1, qP, qK, qD⟩ := q; exact ⟨q0, q1, qP, va_K.moved (u := U) (U := U.calling g mk a) (Vm.Alike.refl U.vm) qK, qD⟩, va_recv hK hP (ci := 5) (q0 := 0) rfl rfl, fun U hU hW => ⟨rfl, by rw [hU], by rw [hU]; exact hPc, va_K.moved hW.alike hK, hDc.weaken (fun _ _ _ _ => trivial)⟩⟩ rfl rfl hl.1 rfl (lv_room (Nat.le_of_ble_eq_true rfl)) dX5_ask_2 ⟨Nat.le_of_ble_eq_true rfl, Nat.le_of_ble_eq_true rfl⟩) hS (fun q _ h => hFc q h) hFc (fun r_1 u_1 t H1 locs ht hvm hw_1 hB hz1 hk1 hS => ?_)
  obtain ⟨hP, hD⟩ := va_join (A0 := fun _ => True) (wc := []) (wr := [(h0, .inr (5, [.ref (qa 0), .ref (qa 1), .ref (qa 2), .ref (qa 3), .ref (qa 4), .int 0, .int 0, .int 10, .int 100, .int 0, .int 0]))]) (w1 := []) hP hD [] [0] rfl rfl (by decide) (by decide) hk1 (fun _ _ => trivial) kt_P0 kt_D0
  generalize H1 = H at hP hS ⊢
  have hP : va_P (dC, dI) vwCl [(h0, .inr (5, [.ref (qa 0), .ref (qa 1), .ref (qa 2), .ref (qa 3), .ref (qa 4), .int 0, .int 0, .int 10, .int 100, .int 0, .int 0]))] H := hP
  have hD : va_D (fun _ => True) [(h0, .inr (5, [.ref (qa 0), .ref (qa 1), .ref (qa 2), .ref (qa 3), .ref (qa 4), .int 0, .int 0, .int 10, .int 100, .int 0, .int 0]))] := hD
  subst hw_1
  refine lv_if_ne (tgt := 10) hx hb dX5_ask_5 (by decide) (fun c_2 => absurd (by decide) c_2) (fun c_2 => ?_)
  refine lv_iconst (v := (-1)) hx hb dX5_ask_8 (by decide) ?_
  exact W.iret (v := (-1)) hx hb hr (fun t ht hW => ⟨⟨(-1), (), rfl, rfl, trivial⟩, hS.F ht⟩) hS.2.2 dX5_ask_9

set_option maxHeartbeats 4000000 in
set_option maxRecDepth 100000 in
theorem c_X5_stranger (l : Launch) (dC : Nat → ClassId) (dI : Nat → Nat → Nat) (cI cZ cS cC : ClassId) (h0 sz : Nat) (qa : Nat → Nat) (p0 p1 p2 p3 : Int32) : Met l yX5_stranger (Cond.code yX5_stranger cX5_stranger 6 (some .int) :: WW) ({ frames := 1, cells := 0, slots := 0, locals := 30 }) (va_Pc [.ref h0, .int p0, .int p1, .int p2, .int p3] (fun U => U.heap.size = sz ∧ va_P (dC, dI) vwCl [(h0, .inr (5, [.ref (qa 0), .ref (qa 1), .ref (qa 2), .ref (qa 3), .ref (qa 4), .int 0, .int 0, .int 10, .int 100, .int 0, .int 0]))] U.heap ∧ va_K (dC, dI) vwCl [(cI, .int), (cZ, .boolean), (cS, .object RX3), (cC, .object RX0)] U ∧ va_D (fun _ => True) [(h0, .inr (5, [.ref (qa 0), .ref (qa 1), .ref (qa 2), .ref (qa 3), .ref (qa 4), .int 0, .int 0, .int 10, .int 100, .int 0, .int 0]))])) (va_Qi (fun (r : Int32) (_ : Unit) => r = (-1)) (fun (_ : Unit) (_ : State) => True) (va_A [] sz)) 0 0 (va_A [] sz) := by
  refine Met.ofW (cc := cX5_stranger) (maxL := 6) (ret := (some .int)) (by decide) rfl ?_
  intro p e s m args below meth c s₁ B hml hv
  obtain ⟨rfl, hsz, hP, hK, hD0⟩ := hv
  have hx := B.exec
  have hb := B.bytes
  have hr := B.returns
  have hts := atoms_spec (ws := Cond.code yX5_stranger cX5_stranger 6 (some .int) :: WW) B.pre
  have hown : s.vm.findClass RX5 = some m.cls := findClass_of_methodNamed B.named
  have hlocks := B.notSynchronized
  subst hsz
  have hD := hD0
  generalize hAe : va_A [] s.heap.size = A
  have hA : ∀ q : Nat, s.heap.size ≤ q → A q := fun q h => by rw [← hAe]; exact Or.inr h
  have hS : va_S A s.heap s.heap [] := va_S.rf
  have hP : va_P (dC, dI) vwCl [(h0, .inr (5, [.ref (qa 0), .ref (qa 1), .ref (qa 2), .ref (qa 3), .ref (qa 4), .int 0, .int 0, .int 10, .int 100, .int 0, .int 0]))] s.heap := hP
  have hl := lv_entry ([.ref h0, .int p0, .int p1, .int p2, .int p3]) (n := 6) (Nat.le_of_ble_eq_true rfl)
  rw [lg_entry_eq]
  generalize (lg_sl ([.ref h0, .int p0, .int p1, .int p2, .int p3]) ++ List.replicate (6 - (lg_sl ([.ref h0, .int p0, .int p1, .int p2, .int p3])).length) Slot.unset).toArray = ls at hl ⊢
  have hl : lv_has ls 6 [(0, .ref h0), (1, .int p0), (2, .int p1), (3, .int p2), (4, .int p3)] := hl
  refine lv_aload_n hx hb dX5_stranger_0 rfl (lv_at hl 0 rfl) ?_
  refine lv_iload_n hx hb dX5_stranger_1 rfl (lv_at hl 2 rfl) ?_
  have hPc := hP.sub (ws' := [(h0, .inr (5, [.ref (qa 0), .ref (qa 1), .ref (qa 2), .ref (qa 3), .ref (qa 4), .int 0, .int 0, .int 10, .int 100, .int 0, .int 0]))]) [0] rfl
  have hDc := hD.sub (ws' := [(h0, .inr (5, [.ref (qa 0), .ref (qa 1), .ref (qa 2), .ref (qa 3), .ref (qa 4), .int 0, .int 0, .int 10, .int 100, .int 0, .int 0]))]) [0] (by decide) rfl
  have hFc : ∀ q, va_A ([] : va_W) s.heap.size q → A q := va_free (wc := []) (ws := []) kt_D0 hS hA [] rfl
  refine va_calli (va_runV (As := [.int p1]) (rest := []) ⟨hx, hb, hml, hown, hts⟩ (c_X5_isSecret l dC dI cI cZ cS cC h0 s.heap.size qa p1) (cwV 1 hts (gV (fun w h => List.mem_cons_of_mem _ h) kw_6 kw_7 kw_8 kw_9 kw_5) rfl rfl rfl (by decide +kernel) ⟨Nat.le_of_ble_eq_true rfl, Nat.le_of_ble_eq_true rfl⟩) ⟨fun a U g mk q => by obtain ⟨q0, q1, qP, qK, qD⟩ := q; exact ⟨q0, q1, qP, va_K.moved (u := U) (U := U.calling g mk a) (Vm.Alike.refl U.vm) qK, qD⟩, va_recv hK hP (ci := 5) (q0 := 0) rfl rfl, fun U hU hW => ⟨rfl, by rw [hU], by rw [hU]; exact hPc, va_K.moved hW.alike hK, hDc.weaken (fun _ _ _ _ => trivial)⟩⟩ rfl rfl hl.1 rfl (lv_room (Nat.le_of_ble_eq_true rfl)) dX5_stranger_2 ⟨Nat.le_of_ble_eq_true rfl, Nat.le_of_ble_eq_true rfl⟩) hS (fun q _ h => hFc q h) hFc (fun r_1 u_1 t H1 locs ht hvm hw_1 hB hz1 hk1 hS => ?_)
  obtain ⟨hP, hD⟩ := va_join (A0 := fun _ => True) (wc := []) (wr := [(h0, .inr (5, [.ref (qa 0), .ref (qa 1), .ref (qa 2), .ref (qa 3), .ref (qa 4), .int 0, .int 0, .int 10, .int 100, .int 0, .int 0]))]) (w1 := []) hP hD [] [0] rfl rfl (by decide) (by decide) hk1 (fun _ _ => trivial) kt_P0 kt_D0
  generalize H1 = H at hP hS ⊢
  have hP : va_P (dC, dI) vwCl [(h0, .inr (5, [.ref (qa 0), .ref (qa 1), .ref (qa 2), .ref (qa 3), .ref (qa 4), .int 0, .int 0, .int 10, .int 100, .int 0, .int 0]))] H := hP
  have hD : va_D (fun _ => True) [(h0, .inr (5, [.ref (qa 0), .ref (qa 1), .ref (qa 2), .ref (qa 3), .ref (qa 4), .int 0, .int 0, .int 10, .int 100, .int 0, .int 0]))] := hD
  subst hw_1
  refine lv_if_eq (tgt := 18) hx hb dX5_stranger_5 (by decide) (fun c_2 => ?_) (fun c_2 => absurd (by decide) c_2)
  refine lv_iconst (v := (-1)) hx hb dX5_stranger_18 (by decide) ?_
  exact W.iret (v := (-1)) hx hb hr (fun t ht hW => ⟨⟨(-1), (), rfl, rfl, trivial⟩, hS.F ht⟩) hS.2.2 dX5_stranger_19

set_option maxHeartbeats 4000000 in
set_option maxRecDepth 100000 in
theorem c_X5_told (l : Launch) (dC : Nat → ClassId) (dI : Nat → Nat → Nat) (cI cZ cS cC : ClassId) (h0 sz : Nat) (qa : Nat → Nat) (p0 p1 : Int32) : Met l yX5_told (Cond.code yX5_told cX5_told 5 (some .int) :: WW) ({ frames := 1, cells := 0, slots := 0, locals := 30 }) (va_Pc [.ref h0, .int p0, .int p1] (fun U => U.heap.size = sz ∧ va_P (dC, dI) vwCl [(h0, .inr (5, [.ref (qa 0), .ref (qa 1), .ref (qa 2), .ref (qa 3), .ref (qa 4), .int 0, .int 0, .int 10, .int 100, .int 0, .int 0]))] U.heap ∧ va_K (dC, dI) vwCl [(cI, .int), (cZ, .boolean), (cS, .object RX3), (cC, .object RX0)] U ∧ va_D (fun _ => True) [(h0, .inr (5, [.ref (qa 0), .ref (qa 1), .ref (qa 2), .ref (qa 3), .ref (qa 4), .int 0, .int 0, .int 10, .int 100, .int 0, .int 0]))])) (va_Qi (fun (r : Int32) (_ : Unit) => r = (-1)) (fun (_ : Unit) (_ : State) => True) (va_A [] sz)) 0 0 (va_A [] sz) := by
  refine Met.ofW (cc := cX5_told) (maxL := 5) (ret := (some .int)) (by decide) rfl ?_
  intro p e s m args below meth c s₁ B hml hv
  obtain ⟨rfl, hsz, hP, hK, hD0⟩ := hv
  have hx := B.exec
  have hb := B.bytes
  have hr := B.returns
  have hts := atoms_spec (ws := Cond.code yX5_told cX5_told 5 (some .int) :: WW) B.pre
  have hown : s.vm.findClass RX5 = some m.cls := findClass_of_methodNamed B.named
  have hlocks := B.notSynchronized
  subst hsz
  have hD := hD0
  generalize hAe : va_A [] s.heap.size = A
  have hA : ∀ q : Nat, s.heap.size ≤ q → A q := fun q h => by rw [← hAe]; exact Or.inr h
  have hS : va_S A s.heap s.heap [] := va_S.rf
  have hP : va_P (dC, dI) vwCl [(h0, .inr (5, [.ref (qa 0), .ref (qa 1), .ref (qa 2), .ref (qa 3), .ref (qa 4), .int 0, .int 0, .int 10, .int 100, .int 0, .int 0]))] s.heap := hP
  have hl := lv_entry ([.ref h0, .int p0, .int p1]) (n := 5) (Nat.le_of_ble_eq_true rfl)
  rw [lg_entry_eq]
  generalize (lg_sl ([.ref h0, .int p0, .int p1]) ++ List.replicate (5 - (lg_sl ([.ref h0, .int p0, .int p1])).length) Slot.unset).toArray = ls at hl ⊢
  have hl : lv_has ls 5 [(0, .ref h0), (1, .int p0), (2, .int p1)] := hl
  refine lv_aload_n hx hb dX5_told_0 rfl (lv_at hl 0 rfl) ?_
  refine lv_iload_n hx hb dX5_told_1 rfl (lv_at hl 1 rfl) ?_
  have hPc := hP.sub (ws' := [(h0, .inr (5, [.ref (qa 0), .ref (qa 1), .ref (qa 2), .ref (qa 3), .ref (qa 4), .int 0, .int 0, .int 10, .int 100, .int 0, .int 0]))]) [0] rfl
  have hDc := hD.sub (ws' := [(h0, .inr (5, [.ref (qa 0), .ref (qa 1), .ref (qa 2), .ref (qa 3), .ref (qa 4), .int 0, .int 0, .int 10, .int 100, .int 0, .int 0]))]) [0] (by decide) rfl
  have hFc : ∀ q, va_A ([] : va_W) s.heap.size q → A q := va_free (wc := []) (ws := []) kt_D0 hS hA [] rfl
  refine va_calli (va_runV (As := [.int p0]) (rest := []) ⟨hx, hb, hml, hown, hts⟩ (c_X5_isSecret l dC dI cI cZ cS cC h0 s.heap.size qa p0) (cwV 1 hts (gV (fun w h => List.mem_cons_of_mem _ h) kw_6 kw_7 kw_8 kw_9 kw_5) rfl rfl rfl (by decide +kernel) ⟨Nat.le_of_ble_eq_true rfl, Nat.le_of_ble_eq_true rfl⟩) ⟨fun a U g mk q => by obtain ⟨q0, q1, qP, qK, qD⟩ := q; exact ⟨q0, q1, qP, va_K.moved (u := U) (U := U.calling g mk a) (Vm.Alike.refl U.vm) qK, qD⟩, va_recv hK hP (ci := 5) (q0 := 0) rfl rfl, fun U hU hW => ⟨rfl, by rw [hU], by rw [hU]; exact hPc, va_K.moved hW.alike hK, hDc.weaken (fun _ _ _ _ => trivial)⟩⟩ rfl rfl hl.1 rfl (lv_room (Nat.le_of_ble_eq_true rfl)) dX5_told_2 ⟨Nat.le_of_ble_eq_true rfl, Nat.le_of_ble_eq_true rfl⟩) hS (fun q _ h => hFc q h) hFc (fun r_1 u_1 t H1 locs ht hvm hw_1 hB hz1 hk1 hS => ?_)
  obtain ⟨hP, hD⟩ := va_join (A0 := fun _ => True) (wc := []) (wr := [(h0, .inr (5, [.ref (qa 0), .ref (qa 1), .ref (qa 2), .ref (qa 3), .ref (qa 4), .int 0, .int 0, .int 10, .int 100, .int 0, .int 0]))]) (w1 := []) hP hD [] [0] rfl rfl (by decide) (by decide) hk1 (fun _ _ => trivial) kt_P0 kt_D0
  generalize H1 = H at hP hS ⊢
  have hP : va_P (dC, dI) vwCl [(h0, .inr (5, [.ref (qa 0), .ref (qa 1), .ref (qa 2), .ref (qa 3), .ref (qa 4), .int 0, .int 0, .int 10, .int 100, .int 0, .int 0]))] H := hP
  have hD : va_D (fun _ => True) [(h0, .inr (5, [.ref (qa 0), .ref (qa 1), .ref (qa 2), .ref (qa 3), .ref (qa 4), .int 0, .int 0, .int 10, .int 100, .int 0, .int 0]))] := hD
  subst hw_1
  refine lv_if_ne (tgt := 10) hx hb dX5_told_5 (by decide) (fun c_2 => absurd (by decide) c_2) (fun c_2 => ?_)
  refine lv_iconst (v := (-1)) hx hb dX5_told_8 (by decide) ?_
  exact W.iret (v := (-1)) hx hb hr (fun t ht hW => ⟨⟨(-1), (), rfl, rfl, trivial⟩, hS.F ht⟩) hS.2.2 dX5_told_9

set_option maxHeartbeats 4000000 in
set_option maxRecDepth 100000 in
theorem c_X5_has (l : Launch) (dC : Nat → ClassId) (dI : Nat → Nat → Nat) (cI cZ cS cC : ClassId) (h0 sz : Nat) (qa : Nat → Nat) (p0 p1 : Int32) : Met l yX5_has (Cond.code yX5_has cX5_has 3 (some .int) :: WW) ({ frames := 1, cells := 0, slots := 0, locals := 30 }) (va_Pc [.ref h0, .int p0, .int p1] (fun U => U.heap.size = sz ∧ va_P (dC, dI) vwCl [(h0, .inr (5, [.ref (qa 0), .ref (qa 1), .ref (qa 2), .ref (qa 3), .ref (qa 4), .int 0, .int 0, .int 10, .int 100, .int 0, .int 0]))] U.heap ∧ va_K (dC, dI) vwCl [(cI, .int), (cZ, .boolean), (cS, .object RX3), (cC, .object RX0)] U ∧ va_D (fun _ => True) [(h0, .inr (5, [.ref (qa 0), .ref (qa 1), .ref (qa 2), .ref (qa 3), .ref (qa 4), .int 0, .int 0, .int 10, .int 100, .int 0, .int 0]))])) (va_Qi (fun (r : Int32) (_ : Unit) => r = (-1)) (fun (_ : Unit) (_ : State) => True) (va_A [] sz)) 0 0 (va_A [] sz) := by
  refine Met.ofW (cc := cX5_has) (maxL := 3) (ret := (some .int)) (by decide) rfl ?_
  intro p e s m args below meth c s₁ B hml hv
  obtain ⟨rfl, hsz, hP, hK, hD0⟩ := hv
  have hx := B.exec
  have hb := B.bytes
  have hr := B.returns
  have hts := atoms_spec (ws := Cond.code yX5_has cX5_has 3 (some .int) :: WW) B.pre
  have hown : s.vm.findClass RX5 = some m.cls := findClass_of_methodNamed B.named
  have hlocks := B.notSynchronized
  subst hsz
  have hD := hD0
  generalize hAe : va_A [] s.heap.size = A
  have hA : ∀ q : Nat, s.heap.size ≤ q → A q := fun q h => by rw [← hAe]; exact Or.inr h
  have hS : va_S A s.heap s.heap [] := va_S.rf
  have hP : va_P (dC, dI) vwCl [(h0, .inr (5, [.ref (qa 0), .ref (qa 1), .ref (qa 2), .ref (qa 3), .ref (qa 4), .int 0, .int 0, .int 10, .int 100, .int 0, .int 0]))] s.heap := hP
  have hl := lv_entry ([.ref h0, .int p0, .int p1]) (n := 3) (Nat.le_of_ble_eq_true rfl)
  rw [lg_entry_eq]
  generalize (lg_sl ([.ref h0, .int p0, .int p1]) ++ List.replicate (3 - (lg_sl ([.ref h0, .int p0, .int p1])).length) Slot.unset).toArray = ls at hl ⊢
  have hl : lv_has ls 3 [(0, .ref h0), (1, .int p0), (2, .int p1)] := hl
  refine lv_aload_n hx hb dX5_has_0 rfl (lv_at hl 0 rfl) ?_
  refine lv_iload_n hx hb dX5_has_1 rfl (lv_at hl 2 rfl) ?_
  have hPc := hP.sub (ws' := [(h0, .inr (5, [.ref (qa 0), .ref (qa 1), .ref (qa 2), .ref (qa 3), .ref (qa 4), .int 0, .int 0, .int 10, .int 100, .int 0, .int 0]))]) [0] rfl
  have hDc := hD.sub (ws' := [(h0, .inr (5, [.ref (qa 0), .ref (qa 1), .ref (qa 2), .ref (qa 3), .ref (qa 4), .int 0, .int 0, .int 10, .int 100, .int 0, .int 0]))]) [0] (by decide) rfl
  have hFc : ∀ q, va_A ([] : va_W) s.heap.size q → A q := va_free (wc := []) (ws := []) kt_D0 hS hA [] rfl
  refine va_calli (va_runV (As := [.int p1]) (rest := []) ⟨hx, hb, hml, hown, hts⟩ (c_X5_isSecret l dC dI cI cZ cS cC h0 s.heap.size qa p1) (cwV 1 hts (gV (fun w h => List.mem_cons_of_mem _ h) kw_6 kw_7 kw_8 kw_9 kw_5) rfl rfl rfl (by decide +kernel) ⟨Nat.le_of_ble_eq_true rfl, Nat.le_of_ble_eq_true rfl⟩) ⟨fun a U g mk q => by obtain ⟨q0, q1, qP, qK, qD⟩ := q; exact ⟨q0, q1, qP, va_K.moved (u := U) (U := U.calling g mk a) (Vm.Alike.refl U.vm) qK, qD⟩, va_recv hK hP (ci := 5) (q0 := 0) rfl rfl, fun U hU hW => ⟨rfl, by rw [hU], by rw [hU]; exact hPc, va_K.moved hW.alike hK, hDc.weaken (fun _ _ _ _ => trivial)⟩⟩ rfl rfl hl.1 rfl (lv_room (Nat.le_of_ble_eq_true rfl)) dX5_has_2 ⟨Nat.le_of_ble_eq_true rfl, Nat.le_of_ble_eq_true rfl⟩) hS (fun q _ h => hFc q h) hFc (fun r_1 u_1 t H1 locs ht hvm hw_1 hB hz1 hk1 hS => ?_)
  obtain ⟨hP, hD⟩ := va_join (A0 := fun _ => True) (wc := []) (wr := [(h0, .inr (5, [.ref (qa 0), .ref (qa 1), .ref (qa 2), .ref (qa 3), .ref (qa 4), .int 0, .int 0, .int 10, .int 100, .int 0, .int 0]))]) (w1 := []) hP hD [] [0] rfl rfl (by decide) (by decide) hk1 (fun _ _ => trivial) kt_P0 kt_D0
  generalize H1 = H at hP hS ⊢
  have hP : va_P (dC, dI) vwCl [(h0, .inr (5, [.ref (qa 0), .ref (qa 1), .ref (qa 2), .ref (qa 3), .ref (qa 4), .int 0, .int 0, .int 10, .int 100, .int 0, .int 0]))] H := hP
  have hD : va_D (fun _ => True) [(h0, .inr (5, [.ref (qa 0), .ref (qa 1), .ref (qa 2), .ref (qa 3), .ref (qa 4), .int 0, .int 0, .int 10, .int 100, .int 0, .int 0]))] := hD
  subst hw_1
  refine lv_if_eq (tgt := 24) hx hb dX5_has_5 (by decide) (fun c_2 => ?_) (fun c_2 => absurd (by decide) c_2)
  refine lv_iconst (v := (-1)) hx hb dX5_has_24 (by decide) ?_
  exact W.iret (v := (-1)) hx hb hr (fun t ht hW => ⟨⟨(-1), (), rfl, rfl, trivial⟩, hS.F ht⟩) hS.2.2 dX5_has_25

set_option maxHeartbeats 4000000 in
set_option maxRecDepth 100000 in
theorem c_X5_good (l : Launch) (dC : Nat → ClassId) (dI : Nat → Nat → Nat) (cI cZ cS cC : ClassId) (h0 sz : Nat) (qa : Nat → Nat) (p0 p1 p2 : Int32) : Met l yX5_good (Cond.code yX5_good cX5_good 4 (some .int) :: WW) ({ frames := 1, cells := 0, slots := 0, locals := 30 }) (va_Pc [.ref h0, .int p0, .int p1, .int p2] (fun U => U.heap.size = sz ∧ va_P (dC, dI) vwCl [(h0, .inr (5, [.ref (qa 0), .ref (qa 1), .ref (qa 2), .ref (qa 3), .ref (qa 4), .int 0, .int 0, .int 10, .int 100, .int 0, .int 0]))] U.heap ∧ va_K (dC, dI) vwCl [(cI, .int), (cZ, .boolean), (cS, .object RX3), (cC, .object RX0)] U ∧ va_D (fun _ => True) [(h0, .inr (5, [.ref (qa 0), .ref (qa 1), .ref (qa 2), .ref (qa 3), .ref (qa 4), .int 0, .int 0, .int 10, .int 100, .int 0, .int 0]))])) (va_Qi (fun (r : Int32) (_ : Unit) => r = (-1)) (fun (_ : Unit) (_ : State) => True) (va_A [] sz)) 0 0 (va_A [] sz) := by
  refine Met.ofW (cc := cX5_good) (maxL := 4) (ret := (some .int)) (by decide) rfl ?_
  intro p e s m args below meth c s₁ B hml hv
  obtain ⟨rfl, hsz, hP, hK, hD0⟩ := hv
  have hx := B.exec
  have hb := B.bytes
  have hr := B.returns
  have hts := atoms_spec (ws := Cond.code yX5_good cX5_good 4 (some .int) :: WW) B.pre
  have hown : s.vm.findClass RX5 = some m.cls := findClass_of_methodNamed B.named
  have hlocks := B.notSynchronized
  subst hsz
  have hD := hD0
  generalize hAe : va_A [] s.heap.size = A
  have hA : ∀ q : Nat, s.heap.size ≤ q → A q := fun q h => by rw [← hAe]; exact Or.inr h
  have hS : va_S A s.heap s.heap [] := va_S.rf
  have hP : va_P (dC, dI) vwCl [(h0, .inr (5, [.ref (qa 0), .ref (qa 1), .ref (qa 2), .ref (qa 3), .ref (qa 4), .int 0, .int 0, .int 10, .int 100, .int 0, .int 0]))] s.heap := hP
  have hl := lv_entry ([.ref h0, .int p0, .int p1, .int p2]) (n := 4) (Nat.le_of_ble_eq_true rfl)
  rw [lg_entry_eq]
  generalize (lg_sl ([.ref h0, .int p0, .int p1, .int p2]) ++ List.replicate (4 - (lg_sl ([.ref h0, .int p0, .int p1, .int p2])).length) Slot.unset).toArray = ls at hl ⊢
  have hl : lv_has ls 4 [(0, .ref h0), (1, .int p0), (2, .int p1), (3, .int p2)] := hl
  refine lv_aload_n hx hb dX5_good_0 rfl (lv_at hl 0 rfl) ?_
  refine lv_iload_n hx hb dX5_good_1 rfl (lv_at hl 2 rfl) ?_
  have hPc := hP.sub (ws' := [(h0, .inr (5, [.ref (qa 0), .ref (qa 1), .ref (qa 2), .ref (qa 3), .ref (qa 4), .int 0, .int 0, .int 10, .int 100, .int 0, .int 0]))]) [0] rfl
  have hDc := hD.sub (ws' := [(h0, .inr (5, [.ref (qa 0), .ref (qa 1), .ref (qa 2), .ref (qa 3), .ref (qa 4), .int 0, .int 0, .int 10, .int 100, .int 0, .int 0]))]) [0] (by decide) rfl
  have hFc : ∀ q, va_A ([] : va_W) s.heap.size q → A q := va_free (wc := []) (ws := []) kt_D0 hS hA [] rfl
  refine va_calli (va_runV (As := [.int p1]) (rest := []) ⟨hx, hb, hml, hown, hts⟩ (c_X5_isSecret l dC dI cI cZ cS cC h0 s.heap.size qa p1) (cwV 1 hts (gV (fun w h => List.mem_cons_of_mem _ h) kw_6 kw_7 kw_8 kw_9 kw_5) rfl rfl rfl (by decide +kernel) ⟨Nat.le_of_ble_eq_true rfl, Nat.le_of_ble_eq_true rfl⟩) ⟨fun a U g mk q => by obtain ⟨q0, q1, qP, qK, qD⟩ := q; exact ⟨q0, q1, qP, va_K.moved (u := U) (U := U.calling g mk a) (Vm.Alike.refl U.vm) qK, qD⟩, va_recv hK hP (ci := 5) (q0 := 0) rfl rfl, fun U hU hW => ⟨rfl, by rw [hU], by rw [hU]; exact hPc, va_K.moved hW.alike hK, hDc.weaken (fun _ _ _ _ => trivial)⟩⟩ rfl rfl hl.1 rfl (lv_room (Nat.le_of_ble_eq_true rfl)) dX5_good_2 ⟨Nat.le_of_ble_eq_true rfl, Nat.le_of_ble_eq_true rfl⟩) hS (fun q _ h => hFc q h) hFc (fun r_1 u_1 t H1 locs ht hvm hw_1 hB hz1 hk1 hS => ?_)
  obtain ⟨hP, hD⟩ := va_join (A0 := fun _ => True) (wc := []) (wr := [(h0, .inr (5, [.ref (qa 0), .ref (qa 1), .ref (qa 2), .ref (qa 3), .ref (qa 4), .int 0, .int 0, .int 10, .int 100, .int 0, .int 0]))]) (w1 := []) hP hD [] [0] rfl rfl (by decide) (by decide) hk1 (fun _ _ => trivial) kt_P0 kt_D0
  generalize H1 = H at hP hS ⊢
  have hP : va_P (dC, dI) vwCl [(h0, .inr (5, [.ref (qa 0), .ref (qa 1), .ref (qa 2), .ref (qa 3), .ref (qa 4), .int 0, .int 0, .int 10, .int 100, .int 0, .int 0]))] H := hP
  have hD : va_D (fun _ => True) [(h0, .inr (5, [.ref (qa 0), .ref (qa 1), .ref (qa 2), .ref (qa 3), .ref (qa 4), .int 0, .int 0, .int 10, .int 100, .int 0, .int 0]))] := hD
  subst hw_1
  refine lv_if_eq (tgt := 24) hx hb dX5_good_5 (by decide) (fun c_2 => ?_) (fun c_2 => absurd (by decide) c_2)
  refine lv_iconst (v := (-1)) hx hb dX5_good_24 (by decide) ?_
  exact W.iret (v := (-1)) hx hb hr (fun t ht hW => ⟨⟨(-1), (), rfl, rfl, trivial⟩, hS.F ht⟩) hS.2.2 dX5_good_25

set_option maxHeartbeats 4000000 in
set_option maxRecDepth 100000 in
theorem c_X5_plan (l : Launch) (dC : Nat → ClassId) (dI : Nat → Nat → Nat) (cI cZ cS cC : ClassId) (h0 sz : Nat) (qa : Nat → Nat) (p0 : Int32) : Met l yX5_plan (Cond.code yX5_plan cX5_plan 5 (some .int) :: WW) ({ frames := 1, cells := 0, slots := 0, locals := 30 }) (va_Pc [.ref h0, .int p0] (fun U => U.heap.size = sz ∧ va_P (dC, dI) vwCl [(h0, .inr (5, [.ref (qa 0), .ref (qa 1), .ref (qa 2), .ref (qa 3), .ref (qa 4), .int 0, .int 0, .int 10, .int 100, .int 0, .int 0]))] U.heap ∧ va_K (dC, dI) vwCl [(cI, .int), (cZ, .boolean), (cS, .object RX3), (cC, .object RX0)] U ∧ va_D (fun _ => True) [(h0, .inr (5, [.ref (qa 0), .ref (qa 1), .ref (qa 2), .ref (qa 3), .ref (qa 4), .int 0, .int 0, .int 10, .int 100, .int 0, .int 0]))])) (va_Qi (fun (r : Int32) (_ : Unit) => r = (-1)) (fun (_ : Unit) (_ : State) => True) (va_A [] sz)) 0 0 (va_A [] sz) := by
  refine Met.ofW (cc := cX5_plan) (maxL := 5) (ret := (some .int)) (by decide) rfl ?_
  intro p e s m args below meth c s₁ B hml hv
  obtain ⟨rfl, hsz, hP, hK, hD0⟩ := hv
  have hx := B.exec
  have hb := B.bytes
  have hr := B.returns
  have hts := atoms_spec (ws := Cond.code yX5_plan cX5_plan 5 (some .int) :: WW) B.pre
  have hown : s.vm.findClass RX5 = some m.cls := findClass_of_methodNamed B.named
  have hlocks := B.notSynchronized
  subst hsz
  have hD := hD0
  generalize hAe : va_A [] s.heap.size = A
  have hA : ∀ q : Nat, s.heap.size ≤ q → A q := fun q h => by rw [← hAe]; exact Or.inr h
  have hS : va_S A s.heap s.heap [] := va_S.rf
  have hP : va_P (dC, dI) vwCl [(h0, .inr (5, [.ref (qa 0), .ref (qa 1), .ref (qa 2), .ref (qa 3), .ref (qa 4), .int 0, .int 0, .int 10, .int 100, .int 0, .int 0]))] s.heap := hP
  have hl := lv_entry ([.ref h0, .int p0]) (n := 5) (Nat.le_of_ble_eq_true rfl)
  rw [lg_entry_eq]
  generalize (lg_sl ([.ref h0, .int p0]) ++ List.replicate (5 - (lg_sl ([.ref h0, .int p0])).length) Slot.unset).toArray = ls at hl ⊢
  have hl : lv_has ls 5 [(0, .ref h0), (1, .int p0)] := hl
  refine lv_iload_n hx hb dX5_plan_0 rfl (lv_at hl 1 rfl) ?_
  refine lv_if_lt (tgt := 12) hx hb dX5_plan_1 (by decide) (fun c_1 => ?_) (fun c_1 => ?_)
  · refine lv_iconst (v := (-1)) hx hb dX5_plan_12 (by decide) ?_
    exact W.iret (v := (-1)) hx hb hr (fun t ht hW => ⟨⟨(-1), (), rfl, rfl, trivial⟩, hS.F ht⟩) hS.2.2 dX5_plan_13
  · refine lv_iload_n hx hb dX5_plan_4 rfl (lv_at hl 1 rfl) ?_
    refine lv_aload_n hx hb dX5_plan_5 rfl (lv_at hl 0 rfl) ?_
    refine va_get (D := (dC, dI)) (ci := 5) (v := .int 0) (C := RX5) (T := TX5) (N := 11) hx hb hts (fun w h => List.mem_cons_of_mem _ (inWX5 w h)) hown hK hP 0 rfl rfl 5 (by decide) (hts _ (List.mem_cons_of_mem _ kw_0)) (fun _ h9 => h9) rfl dX5_plan_6 ?_
    refine lv_icmp_lt (tgt := 14) hx hb dX5_plan_9 (by decide) (fun c_2 => False.elim (by have z0 := c_1; have z1 := c_2; simp only [Int32.lt_iff_toInt_lt, Int32.le_iff_toInt_le, ← Int32.toInt_inj, L0, L1, L5, L16, L10, L12, L15, L20, L63, L1000, L1023, L2000, L10000, L100000, Lm1] at z0 z1; omega)) (fun c_2 => ?_)
    refine lv_iconst (v := (-1)) hx hb dX5_plan_12 (by decide) ?_
    exact W.iret (v := (-1)) hx hb hr (fun t ht hW => ⟨⟨(-1), (), rfl, rfl, trivial⟩, hS.F ht⟩) hS.2.2 dX5_plan_13

set_option maxHeartbeats 4000000 in
set_option maxRecDepth 100000 in
theorem c_X5_hangs (l : Launch) (dC : Nat → ClassId) (dI : Nat → Nat → Nat) (cI cZ cS cC : ClassId) (h0 sz : Nat) (qa : Nat → Nat) (p0 p1 : Int32) : Met l yX5_hangs (Cond.code yX5_hangs cX5_hangs 3 (some .boolean) :: WW) ({ frames := 1, cells := 0, slots := 0, locals := 30 }) (va_Pc [.ref h0, .int p0, .int p1] (fun U => U.heap.size = sz ∧ va_P (dC, dI) vwCl [(h0, .inr (5, [.ref (qa 0), .ref (qa 1), .ref (qa 2), .ref (qa 3), .ref (qa 4), .int 0, .int 0, .int 10, .int 100, .int 0, .int 0]))] U.heap ∧ va_K (dC, dI) vwCl [(cI, .int), (cZ, .boolean), (cS, .object RX3), (cC, .object RX0)] U ∧ va_D (fun _ => True) [(h0, .inr (5, [.ref (qa 0), .ref (qa 1), .ref (qa 2), .ref (qa 3), .ref (qa 4), .int 0, .int 0, .int 10, .int 100, .int 0, .int 0]))])) (va_Qi (fun (r : Int32) (_ : Unit) => r = 0) (fun (_ : Unit) (_ : State) => True) (va_A [] sz)) 0 0 (va_A [] sz) := by
  refine Met.ofW (cc := cX5_hangs) (maxL := 3) (ret := (some .boolean)) (by decide) rfl ?_
  intro p e s m args below meth c s₁ B hml hv
  obtain ⟨rfl, hsz, hP, hK, hD0⟩ := hv
  have hx := B.exec
  have hb := B.bytes
  have hr := B.returns
  have hts := atoms_spec (ws := Cond.code yX5_hangs cX5_hangs 3 (some .boolean) :: WW) B.pre
  have hown : s.vm.findClass RX5 = some m.cls := findClass_of_methodNamed B.named
  have hlocks := B.notSynchronized
  subst hsz
  have hD := hD0
  generalize hAe : va_A [] s.heap.size = A
  have hA : ∀ q : Nat, s.heap.size ≤ q → A q := fun q h => by rw [← hAe]; exact Or.inr h
  have hS : va_S A s.heap s.heap [] := va_S.rf
  have hP : va_P (dC, dI) vwCl [(h0, .inr (5, [.ref (qa 0), .ref (qa 1), .ref (qa 2), .ref (qa 3), .ref (qa 4), .int 0, .int 0, .int 10, .int 100, .int 0, .int 0]))] s.heap := hP
  have hl := lv_entry ([.ref h0, .int p0, .int p1]) (n := 3) (Nat.le_of_ble_eq_true rfl)
  rw [lg_entry_eq]
  generalize (lg_sl ([.ref h0, .int p0, .int p1]) ++ List.replicate (3 - (lg_sl ([.ref h0, .int p0, .int p1])).length) Slot.unset).toArray = ls at hl ⊢
  have hl : lv_has ls 3 [(0, .ref h0), (1, .int p0), (2, .int p1)] := hl
  refine lv_aload_n hx hb dX5_hangs_0 rfl (lv_at hl 0 rfl) ?_
  refine lv_iload_n hx hb dX5_hangs_1 rfl (lv_at hl 1 rfl) ?_
  have hPc := hP.sub (ws' := [(h0, .inr (5, [.ref (qa 0), .ref (qa 1), .ref (qa 2), .ref (qa 3), .ref (qa 4), .int 0, .int 0, .int 10, .int 100, .int 0, .int 0]))]) [0] rfl
  have hDc := hD.sub (ws' := [(h0, .inr (5, [.ref (qa 0), .ref (qa 1), .ref (qa 2), .ref (qa 3), .ref (qa 4), .int 0, .int 0, .int 10, .int 100, .int 0, .int 0]))]) [0] (by decide) rfl
  have hFc : ∀ q, va_A ([] : va_W) s.heap.size q → A q := va_free (wc := []) (ws := []) kt_D0 hS hA [] rfl
  refine va_calli (va_runV (As := [.int p0]) (rest := []) ⟨hx, hb, hml, hown, hts⟩ (c_X5_isSecret l dC dI cI cZ cS cC h0 s.heap.size qa p0) (cwV 1 hts (gV (fun w h => List.mem_cons_of_mem _ h) kw_6 kw_7 kw_8 kw_9 kw_5) rfl rfl rfl (by decide +kernel) ⟨Nat.le_of_ble_eq_true rfl, Nat.le_of_ble_eq_true rfl⟩) ⟨fun a U g mk q => by obtain ⟨q0, q1, qP, qK, qD⟩ := q; exact ⟨q0, q1, qP, va_K.moved (u := U) (U := U.calling g mk a) (Vm.Alike.refl U.vm) qK, qD⟩, va_recv hK hP (ci := 5) (q0 := 0) rfl rfl, fun U hU hW => ⟨rfl, by rw [hU], by rw [hU]; exact hPc, va_K.moved hW.alike hK, hDc.weaken (fun _ _ _ _ => trivial)⟩⟩ rfl rfl hl.1 rfl (lv_room (Nat.le_of_ble_eq_true rfl)) dX5_hangs_2 ⟨Nat.le_of_ble_eq_true rfl, Nat.le_of_ble_eq_true rfl⟩) hS (fun q _ h => hFc q h) hFc (fun r_1 u_1 t H1 locs ht hvm hw_1 hB hz1 hk1 hS => ?_)
  obtain ⟨hP, hD⟩ := va_join (A0 := fun _ => True) (wc := []) (wr := [(h0, .inr (5, [.ref (qa 0), .ref (qa 1), .ref (qa 2), .ref (qa 3), .ref (qa 4), .int 0, .int 0, .int 10, .int 100, .int 0, .int 0]))]) (w1 := []) hP hD [] [0] rfl rfl (by decide) (by decide) hk1 (fun _ _ => trivial) kt_P0 kt_D0
  generalize H1 = H at hP hS ⊢
  have hP : va_P (dC, dI) vwCl [(h0, .inr (5, [.ref (qa 0), .ref (qa 1), .ref (qa 2), .ref (qa 3), .ref (qa 4), .int 0, .int 0, .int 10, .int 100, .int 0, .int 0]))] H := hP
  have hD : va_D (fun _ => True) [(h0, .inr (5, [.ref (qa 0), .ref (qa 1), .ref (qa 2), .ref (qa 3), .ref (qa 4), .int 0, .int 0, .int 10, .int 100, .int 0, .int 0]))] := hD
  subst hw_1
  refine lv_if_eq (tgt := 32) hx hb dX5_hangs_5 (by decide) (fun c_2 => ?_) (fun c_2 => absurd (by decide) c_2)
  refine lv_iconst (v := 0) hx hb dX5_hangs_32 (by decide) ?_
  exact W.zret (v := 0) (ty := .boolean) hx hb hr rfl (fun t ht hW => ⟨⟨0, (), rfl, rfl, trivial⟩, hS.F ht⟩) hS.2.2 dX5_hangs_33

set_option maxHeartbeats 4000000 in
set_option maxRecDepth 100000 in
theorem c_X5_turnsGoingOn (l : Launch) (dC : Nat → ClassId) (dI : Nat → Nat → Nat) (cI cZ cS cC : ClassId) (h0 sz : Nat) (qa : Nat → Nat) : Met l yX5_turnsGoingOn (Cond.code yX5_turnsGoingOn cX5_turnsGoingOn 3 (some .int) :: WW) ({ frames := 0, cells := 0, slots := 0, locals := 0 }) (va_Pc [.ref h0] (fun U => U.heap.size = sz ∧ va_P (dC, dI) vwCl [(h0, .inr (5, [.ref (qa 0), .ref (qa 1), .ref (qa 2), .ref (qa 3), .ref (qa 4), .int 0, .int 0, .int 10, .int 100, .int 0, .int 0]))] U.heap ∧ va_K (dC, dI) vwCl [(cI, .int), (cZ, .boolean), (cS, .object RX3), (cC, .object RX0)] U ∧ va_D (fun _ => True) [(h0, .inr (5, [.ref (qa 0), .ref (qa 1), .ref (qa 2), .ref (qa 3), .ref (qa 4), .int 0, .int 0, .int 10, .int 100, .int 0, .int 0]))])) (va_Qi (fun (r : Int32) (_ : Unit) => r = 0) (fun (_ : Unit) (_ : State) => True) (va_A [] sz)) 0 0 (va_A [] sz) := by
  refine Met.ofW (cc := cX5_turnsGoingOn) (maxL := 3) (ret := (some .int)) (by decide) rfl ?_
  intro p e s m args below meth c s₁ B hml hv
  obtain ⟨rfl, hsz, hP, hK, hD0⟩ := hv
  have hx := B.exec
  have hb := B.bytes
  have hr := B.returns
  have hts := atoms_spec (ws := Cond.code yX5_turnsGoingOn cX5_turnsGoingOn 3 (some .int) :: WW) B.pre
  have hown : s.vm.findClass RX5 = some m.cls := findClass_of_methodNamed B.named
  have hlocks := B.notSynchronized
  subst hsz
  have hD := hD0
  generalize hAe : va_A [] s.heap.size = A
  have hA : ∀ q : Nat, s.heap.size ≤ q → A q := fun q h => by rw [← hAe]; exact Or.inr h
  have hS : va_S A s.heap s.heap [] := va_S.rf
  have hP : va_P (dC, dI) vwCl [(h0, .inr (5, [.ref (qa 0), .ref (qa 1), .ref (qa 2), .ref (qa 3), .ref (qa 4), .int 0, .int 0, .int 10, .int 100, .int 0, .int 0]))] s.heap := hP
  have hl := lv_entry ([.ref h0]) (n := 3) (Nat.le_of_ble_eq_true rfl)
  rw [lg_entry_eq]
  generalize (lg_sl ([.ref h0]) ++ List.replicate (3 - (lg_sl ([.ref h0])).length) Slot.unset).toArray = ls at hl ⊢
  have hl : lv_has ls 3 [(0, .ref h0)] := hl
  refine lv_iconst (v := 0) hx hb dX5_turnsGoingOn_0 (by decide) ?_
  refine lv_istore_n (lv' := [(1, .int 0), (0, .ref h0)]) hx hb dX5_turnsGoingOn_1 rfl hl (by decide) rfl (fun ls hl => ?_)
  refine lv_iconst (v := 0) hx hb dX5_turnsGoingOn_2 (by decide) ?_
  refine lv_istore_n (lv' := [(2, .int 0), (1, .int 0), (0, .ref h0)]) hx hb dX5_turnsGoingOn_3 rfl hl (by decide) rfl (fun ls hl => ?_)
  refine lv_iload_n hx hb dX5_turnsGoingOn_4 rfl (lv_at hl 0 rfl) ?_
  refine lv_aload_n hx hb dX5_turnsGoingOn_5 rfl (lv_at hl 2 rfl) ?_
  refine va_get (D := (dC, dI)) (ci := 5) (v := .int 0) (C := RX5) (T := TX5) (N := 11) hx hb hts (fun w h => List.mem_cons_of_mem _ (inWX5 w h)) hown hK hP 0 rfl rfl 5 (by decide) (hts _ (List.mem_cons_of_mem _ kw_0)) (fun _ h9 => h9) rfl dX5_turnsGoingOn_6 ?_
  refine lv_icmp_ge (tgt := 38) hx hb dX5_turnsGoingOn_9 (by decide) (fun c_1 => ?_) (fun c_1 => absurd (by decide) c_1)
  refine lv_iload_n hx hb dX5_turnsGoingOn_38 rfl (lv_at hl 1 rfl) ?_
  exact W.iret (v := 0) hx hb hr (fun t ht hW => ⟨⟨0, (), rfl, rfl, trivial⟩, hS.F ht⟩) hS.2.2 dX5_turnsGoingOn_39

set_option maxHeartbeats 4000000 in
set_option maxRecDepth 100000 in
theorem c_X5_lettersUnanswered (l : Launch) (dC : Nat → ClassId) (dI : Nat → Nat → Nat) (cI cZ cS cC : ClassId) (h0 sz : Nat) (qa : Nat → Nat) : Met l yX5_lettersUnanswered (Cond.code yX5_lettersUnanswered cX5_lettersUnanswered 3 (some .int) :: WW) ({ frames := 0, cells := 0, slots := 0, locals := 0 }) (va_Pc [.ref h0] (fun U => U.heap.size = sz ∧ va_P (dC, dI) vwCl [(h0, .inr (5, [.ref (qa 0), .ref (qa 1), .ref (qa 2), .ref (qa 3), .ref (qa 4), .int 0, .int 0, .int 10, .int 100, .int 0, .int 0]))] U.heap ∧ va_K (dC, dI) vwCl [(cI, .int), (cZ, .boolean), (cS, .object RX3), (cC, .object RX0)] U ∧ va_D (fun _ => True) [(h0, .inr (5, [.ref (qa 0), .ref (qa 1), .ref (qa 2), .ref (qa 3), .ref (qa 4), .int 0, .int 0, .int 10, .int 100, .int 0, .int 0]))])) (va_Qi (fun (r : Int32) (_ : Unit) => r = 0) (fun (_ : Unit) (_ : State) => True) (va_A [] sz)) 0 0 (va_A [] sz) := by
  refine Met.ofW (cc := cX5_lettersUnanswered) (maxL := 3) (ret := (some .int)) (by decide) rfl ?_
  intro p e s m args below meth c s₁ B hml hv
  obtain ⟨rfl, hsz, hP, hK, hD0⟩ := hv
  have hx := B.exec
  have hb := B.bytes
  have hr := B.returns
  have hts := atoms_spec (ws := Cond.code yX5_lettersUnanswered cX5_lettersUnanswered 3 (some .int) :: WW) B.pre
  have hown : s.vm.findClass RX5 = some m.cls := findClass_of_methodNamed B.named
  have hlocks := B.notSynchronized
  subst hsz
  have hD := hD0
  generalize hAe : va_A [] s.heap.size = A
  have hA : ∀ q : Nat, s.heap.size ≤ q → A q := fun q h => by rw [← hAe]; exact Or.inr h
  have hS : va_S A s.heap s.heap [] := va_S.rf
  have hP : va_P (dC, dI) vwCl [(h0, .inr (5, [.ref (qa 0), .ref (qa 1), .ref (qa 2), .ref (qa 3), .ref (qa 4), .int 0, .int 0, .int 10, .int 100, .int 0, .int 0]))] s.heap := hP
  have hl := lv_entry ([.ref h0]) (n := 3) (Nat.le_of_ble_eq_true rfl)
  rw [lg_entry_eq]
  generalize (lg_sl ([.ref h0]) ++ List.replicate (3 - (lg_sl ([.ref h0])).length) Slot.unset).toArray = ls at hl ⊢
  have hl : lv_has ls 3 [(0, .ref h0)] := hl
  refine lv_iconst (v := 0) hx hb dX5_lettersUnanswered_0 (by decide) ?_
  refine lv_istore_n (lv' := [(1, .int 0), (0, .ref h0)]) hx hb dX5_lettersUnanswered_1 rfl hl (by decide) rfl (fun ls hl => ?_)
  refine lv_iconst (v := 0) hx hb dX5_lettersUnanswered_2 (by decide) ?_
  refine lv_istore_n (lv' := [(2, .int 0), (1, .int 0), (0, .ref h0)]) hx hb dX5_lettersUnanswered_3 rfl hl (by decide) rfl (fun ls hl => ?_)
  refine lv_iload_n hx hb dX5_lettersUnanswered_4 rfl (lv_at hl 0 rfl) ?_
  refine lv_aload_n hx hb dX5_lettersUnanswered_5 rfl (lv_at hl 2 rfl) ?_
  refine va_get (D := (dC, dI)) (ci := 5) (v := .int 0) (C := RX5) (T := TX5) (N := 11) hx hb hts (fun w h => List.mem_cons_of_mem _ (inWX5 w h)) hown hK hP 0 rfl rfl 5 (by decide) (hts _ (List.mem_cons_of_mem _ kw_0)) (fun _ h9 => h9) rfl dX5_lettersUnanswered_6 ?_
  refine lv_icmp_ge (tgt := 30) hx hb dX5_lettersUnanswered_9 (by decide) (fun c_1 => ?_) (fun c_1 => absurd (by decide) c_1)
  refine lv_iload_n hx hb dX5_lettersUnanswered_30 rfl (lv_at hl 1 rfl) ?_
  exact W.iret (v := 0) hx hb hr (fun t ht hW => ⟨⟨0, (), rfl, rfl, trivial⟩, hS.F ht⟩) hS.2.2 dX5_lettersUnanswered_31

set_option maxHeartbeats 4000000 in
set_option maxRecDepth 100000 in
theorem c_X5_secretsPastLife (l : Launch) (dC : Nat → ClassId) (dI : Nat → Nat → Nat) (cI cZ cS cC : ClassId) (h0 sz : Nat) (qa : Nat → Nat) : Met l yX5_secretsPastLife (Cond.code yX5_secretsPastLife cX5_secretsPastLife 3 (some .int) :: WW) ({ frames := 0, cells := 0, slots := 0, locals := 0 }) (va_Pc [.ref h0] (fun U => U.heap.size = sz ∧ va_P (dC, dI) vwCl [(h0, .inr (5, [.ref (qa 0), .ref (qa 1), .ref (qa 2), .ref (qa 3), .ref (qa 4), .int 0, .int 0, .int 10, .int 100, .int 0, .int 0]))] U.heap ∧ va_K (dC, dI) vwCl [(cI, .int), (cZ, .boolean), (cS, .object RX3), (cC, .object RX0)] U ∧ va_D (fun _ => True) [(h0, .inr (5, [.ref (qa 0), .ref (qa 1), .ref (qa 2), .ref (qa 3), .ref (qa 4), .int 0, .int 0, .int 10, .int 100, .int 0, .int 0]))])) (va_Qi (fun (r : Int32) (_ : Unit) => r = 0) (fun (_ : Unit) (_ : State) => True) (va_A [] sz)) 0 0 (va_A [] sz) := by
  refine Met.ofW (cc := cX5_secretsPastLife) (maxL := 3) (ret := (some .int)) (by decide) rfl ?_
  intro p e s m args below meth c s₁ B hml hv
  obtain ⟨rfl, hsz, hP, hK, hD0⟩ := hv
  have hx := B.exec
  have hb := B.bytes
  have hr := B.returns
  have hts := atoms_spec (ws := Cond.code yX5_secretsPastLife cX5_secretsPastLife 3 (some .int) :: WW) B.pre
  have hown : s.vm.findClass RX5 = some m.cls := findClass_of_methodNamed B.named
  have hlocks := B.notSynchronized
  subst hsz
  have hD := hD0
  generalize hAe : va_A [] s.heap.size = A
  have hA : ∀ q : Nat, s.heap.size ≤ q → A q := fun q h => by rw [← hAe]; exact Or.inr h
  have hS : va_S A s.heap s.heap [] := va_S.rf
  have hP : va_P (dC, dI) vwCl [(h0, .inr (5, [.ref (qa 0), .ref (qa 1), .ref (qa 2), .ref (qa 3), .ref (qa 4), .int 0, .int 0, .int 10, .int 100, .int 0, .int 0]))] s.heap := hP
  have hl := lv_entry ([.ref h0]) (n := 3) (Nat.le_of_ble_eq_true rfl)
  rw [lg_entry_eq]
  generalize (lg_sl ([.ref h0]) ++ List.replicate (3 - (lg_sl ([.ref h0])).length) Slot.unset).toArray = ls at hl ⊢
  have hl : lv_has ls 3 [(0, .ref h0)] := hl
  refine lv_iconst (v := 0) hx hb dX5_secretsPastLife_0 (by decide) ?_
  refine lv_istore_n (lv' := [(1, .int 0), (0, .ref h0)]) hx hb dX5_secretsPastLife_1 rfl hl (by decide) rfl (fun ls hl => ?_)
  refine lv_iconst (v := 0) hx hb dX5_secretsPastLife_2 (by decide) ?_
  refine lv_istore_n (lv' := [(2, .int 0), (1, .int 0), (0, .ref h0)]) hx hb dX5_secretsPastLife_3 rfl hl (by decide) rfl (fun ls hl => ?_)
  refine lv_iload_n hx hb dX5_secretsPastLife_4 rfl (lv_at hl 0 rfl) ?_
  refine lv_aload_n hx hb dX5_secretsPastLife_5 rfl (lv_at hl 2 rfl) ?_
  refine va_get (D := (dC, dI)) (ci := 5) (v := .int 0) (C := RX5) (T := TX5) (N := 11) hx hb hts (fun w h => List.mem_cons_of_mem _ (inWX5 w h)) hown hK hP 0 rfl rfl 5 (by decide) (hts _ (List.mem_cons_of_mem _ kw_0)) (fun _ h9 => h9) rfl dX5_secretsPastLife_6 ?_
  refine lv_icmp_ge (tgt := 52) hx hb dX5_secretsPastLife_9 (by decide) (fun c_1 => ?_) (fun c_1 => absurd (by decide) c_1)
  refine lv_iload_n hx hb dX5_secretsPastLife_52 rfl (lv_at hl 1 rfl) ?_
  exact W.iret (v := 0) hx hb hr (fun t ht hW => ⟨⟨0, (), rfl, rfl, trivial⟩, hS.F ht⟩) hS.2.2 dX5_secretsPastLife_53

set_option maxHeartbeats 4000000 in
set_option maxRecDepth 100000 in
theorem c_X5_count (l : Launch) (dC : Nat → ClassId) (dI : Nat → Nat → Nat) (cI cZ cS cC : ClassId) (h0 sz : Nat) (qa : Nat → Nat) (ro : Nat) (p0 : Int32) : Met l yX5_count (Cond.code yX5_count cX5_count 2 (some .int) :: WW) ({ frames := 1, cells := 0, slots := 0, locals := 30 }) (va_Pc [.ref h0, .int p0] (fun U => U.heap.size = sz ∧ va_P (dC, dI) vwCl [(h0, .inr (5, [.ref (qa 0), .ref (qa 1), .ref (qa 2), .ref (qa 3), .ref (qa 4), .int 0, .int 0, .int 10, .int 100, .int 0, .int 0])), (qa 4, .inr (1, [.ref ro, .int 0]))] U.heap ∧ va_K (dC, dI) vwCl [(cI, .int), (cZ, .boolean), (cS, .object RX3), (cC, .object RX0)] U ∧ va_D (fun _ => True) [(h0, .inr (5, [.ref (qa 0), .ref (qa 1), .ref (qa 2), .ref (qa 3), .ref (qa 4), .int 0, .int 0, .int 10, .int 100, .int 0, .int 0])), (qa 4, .inr (1, [.ref ro, .int 0]))])) (va_Qi (fun (r : Int32) (_ : Unit) => r = sp_count p0) (fun (_ : Unit) (_ : State) => True) (va_A [] sz)) 0 0 (va_A [] sz) := by
  refine Met.ofW (cc := cX5_count) (maxL := 2) (ret := (some .int)) (by decide) rfl ?_
  intro p e s m args below meth c s₁ B hml hv
  obtain ⟨rfl, hsz, hP, hK, hD0⟩ := hv
  have hx := B.exec
  have hb := B.bytes
  have hr := B.returns
  have hts := atoms_spec (ws := Cond.code yX5_count cX5_count 2 (some .int) :: WW) B.pre
  have hown : s.vm.findClass RX5 = some m.cls := findClass_of_methodNamed B.named
  have hlocks := B.notSynchronized
  subst hsz
  have hD := hD0
  generalize hAe : va_A [] s.heap.size = A
  have hA : ∀ q : Nat, s.heap.size ≤ q → A q := fun q h => by rw [← hAe]; exact Or.inr h
  have hS : va_S A s.heap s.heap [] := va_S.rf
  have hP : va_P (dC, dI) vwCl [(h0, .inr (5, [.ref (qa 0), .ref (qa 1), .ref (qa 2), .ref (qa 3), .ref (qa 4), .int 0, .int 0, .int 10, .int 100, .int 0, .int 0])), (qa 4, .inr (1, [.ref ro, .int 0]))] s.heap := hP
  have hl := lv_entry ([.ref h0, .int p0]) (n := 2) (Nat.le_of_ble_eq_true rfl)
  rw [lg_entry_eq]
  generalize (lg_sl ([.ref h0, .int p0]) ++ List.replicate (2 - (lg_sl ([.ref h0, .int p0])).length) Slot.unset).toArray = ls at hl ⊢
  have hl : lv_has ls 2 [(0, .ref h0), (1, .int p0)] := hl
  refine lv_iload_n hx hb dX5_count_0 rfl (lv_at hl 1 rfl) ?_
  rcases kt_sw8 p0 with g_1 | g_1 | g_1 | g_1 | g_1 | g_1 | g_1 | g_1 | g_1
  · subst g_1
    refine lv_tableIn (off := 47) (tgt := 48) hx hb dX5_count_1 (by decide) (by decide) (by decide) (by decide) ?_
    refine lv_aload_n hx hb dX5_count_48 rfl (lv_at hl 0 rfl) ?_
    refine va_get (D := (dC, dI)) (ci := 5) (v := .int 0) (C := RX5) (T := TX5) (N := 11) hx hb hts (fun w h => List.mem_cons_of_mem _ (inWX5 w h)) hown hK hP 0 rfl rfl 6 (by decide) (hts _ (List.mem_cons_of_mem _ kw_10)) (fun _ h9 => h9) rfl dX5_count_49 ?_
    exact W.iret (v := 0) hx hb hr (fun t ht hW => ⟨⟨0, (), rfl, (by decide), trivial⟩, hS.F ht⟩) hS.2.2 dX5_count_52
  · subst g_1
    refine lv_tableIn (off := 52) (tgt := 53) hx hb dX5_count_1 (by decide) (by decide) (by decide) (by decide) ?_
    refine lv_aload_n hx hb dX5_count_53 rfl (lv_at hl 0 rfl) ?_
    refine va_get (D := (dC, dI)) (ci := 5) (v := .int 0) (C := RX5) (T := TX5) (N := 11) hx hb hts (fun w h => List.mem_cons_of_mem _ (inWX5 w h)) hown hK hP 0 rfl rfl 5 (by decide) (hts _ (List.mem_cons_of_mem _ kw_0)) (fun _ h9 => h9) rfl dX5_count_54 ?_
    exact W.iret (v := 0) hx hb hr (fun t ht hW => ⟨⟨0, (), rfl, (by decide), trivial⟩, hS.F ht⟩) hS.2.2 dX5_count_57
  · subst g_1
    refine lv_tableIn (off := 57) (tgt := 58) hx hb dX5_count_1 (by decide) (by decide) (by decide) (by decide) ?_
    refine lv_aload_n hx hb dX5_count_58 rfl (lv_at hl 0 rfl) ?_
    refine va_get (D := (dC, dI)) (ci := 5) (v := .ref (qa 4)) (C := RX5) (T := TX5) (N := 11) hx hb hts (fun w h => List.mem_cons_of_mem _ (inWX5 w h)) hown hK hP 0 rfl rfl 4 (by decide) (hts _ (List.mem_cons_of_mem _ kw_11)) (fun _ h9 => h9) rfl dX5_count_59 ?_
    refine va_get (D := (dC, dI)) (ci := 1) (v := .int 0) (C := RX1) (T := TX1) (N := 2) hx hb hts (fun w h => List.mem_cons_of_mem _ (inWX1 w h)) hown hK hP 1 rfl rfl 1 (by decide) (hts _ (List.mem_cons_of_mem _ kw_12)) (fun _ h9 => h9) rfl dX5_count_62 ?_
    exact W.iret (v := 0) hx hb hr (fun t ht hW => ⟨⟨0, (), rfl, (by decide), trivial⟩, hS.F ht⟩) hS.2.2 dX5_count_65
  · subst g_1
    refine lv_tableIn (off := 65) (tgt := 66) hx hb dX5_count_1 (by decide) (by decide) (by decide) (by decide) ?_
    refine lv_aload_n hx hb dX5_count_66 rfl (lv_at hl 0 rfl) ?_
    have hPc := hP.sub (ws' := [(h0, .inr (5, [.ref (qa 0), .ref (qa 1), .ref (qa 2), .ref (qa 3), .ref (qa 4), .int 0, .int 0, .int 10, .int 100, .int 0, .int 0]))]) [0] rfl
    have hDc := hD.sub (ws' := [(h0, .inr (5, [.ref (qa 0), .ref (qa 1), .ref (qa 2), .ref (qa 3), .ref (qa 4), .int 0, .int 0, .int 10, .int 100, .int 0, .int 0]))]) [0] (by decide) rfl
    have hFc : ∀ q, va_A ([] : va_W) s.heap.size q → A q := va_free (wc := []) (ws := []) kt_D0 hS hA [] rfl
    refine va_calli (va_runV (As := []) (rest := []) ⟨hx, hb, hml, hown, hts⟩ (c_X5_turnsGoingOn l dC dI cI cZ cS cC h0 s.heap.size qa) (cwV 0 hts (gV (fun w h => List.mem_cons_of_mem _ h) kw_14 kw_15 kw_16 kw_9 kw_13) rfl rfl rfl (by decide +kernel) ⟨Nat.le_of_ble_eq_true rfl, Nat.le_of_ble_eq_true rfl⟩) ⟨fun a U g mk q => by obtain ⟨q0, q1, qP, qK, qD⟩ := q; exact ⟨q0, q1, qP, va_K.moved (u := U) (U := U.calling g mk a) (Vm.Alike.refl U.vm) qK, qD⟩, va_recv hK hP (ci := 5) (q0 := 0) rfl rfl, fun U hU hW => ⟨rfl, by rw [hU], by rw [hU]; exact hPc, va_K.moved hW.alike hK, hDc.weaken (fun _ _ _ _ => trivial)⟩⟩ rfl rfl hl.1 rfl (lv_room (Nat.le_of_ble_eq_true rfl)) dX5_count_67 ⟨Nat.le_of_ble_eq_true rfl, Nat.le_of_ble_eq_true rfl⟩) hS (fun q _ h => hFc q h) hFc (fun r_2 u_2 t H1 locs ht hvm hw_2 hB hz1 hk1 hS => ?_)
    obtain ⟨hP, hD⟩ := va_join (A0 := fun _ => True) (wc := []) (wr := [(h0, .inr (5, [.ref (qa 0), .ref (qa 1), .ref (qa 2), .ref (qa 3), .ref (qa 4), .int 0, .int 0, .int 10, .int 100, .int 0, .int 0])), (qa 4, .inr (1, [.ref ro, .int 0]))]) (w1 := []) hP hD [] [0, 1] rfl rfl (by decide) (by decide) hk1 (fun _ _ => trivial) kt_P0 kt_D0
    generalize H1 = H at hP hS ⊢
    have hP : va_P (dC, dI) vwCl [(h0, .inr (5, [.ref (qa 0), .ref (qa 1), .ref (qa 2), .ref (qa 3), .ref (qa 4), .int 0, .int 0, .int 10, .int 100, .int 0, .int 0])), (qa 4, .inr (1, [.ref ro, .int 0]))] H := hP
    have hD : va_D (fun _ => True) [(h0, .inr (5, [.ref (qa 0), .ref (qa 1), .ref (qa 2), .ref (qa 3), .ref (qa 4), .int 0, .int 0, .int 10, .int 100, .int 0, .int 0])), (qa 4, .inr (1, [.ref ro, .int 0]))] := hD
    subst hw_2
    exact W.iret (v := 0) hx hb hr (fun t ht hW => ⟨⟨0, (), rfl, (by decide), trivial⟩, hS.F ht⟩) hS.2.2 dX5_count_70
  · subst g_1
    refine lv_tableIn (off := 70) (tgt := 71) hx hb dX5_count_1 (by decide) (by decide) (by decide) (by decide) ?_
    refine lv_aload_n hx hb dX5_count_71 rfl (lv_at hl 0 rfl) ?_
    have hPc := hP.sub (ws' := [(h0, .inr (5, [.ref (qa 0), .ref (qa 1), .ref (qa 2), .ref (qa 3), .ref (qa 4), .int 0, .int 0, .int 10, .int 100, .int 0, .int 0]))]) [0] rfl
    have hDc := hD.sub (ws' := [(h0, .inr (5, [.ref (qa 0), .ref (qa 1), .ref (qa 2), .ref (qa 3), .ref (qa 4), .int 0, .int 0, .int 10, .int 100, .int 0, .int 0]))]) [0] (by decide) rfl
    have hFc : ∀ q, va_A ([] : va_W) s.heap.size q → A q := va_free (wc := []) (ws := []) kt_D0 hS hA [] rfl
    refine va_calli (va_runV (As := []) (rest := []) ⟨hx, hb, hml, hown, hts⟩ (c_X5_lettersUnanswered l dC dI cI cZ cS cC h0 s.heap.size qa) (cwV 0 hts (gV (fun w h => List.mem_cons_of_mem _ h) kw_18 kw_19 kw_20 kw_9 kw_17) rfl rfl rfl (by decide +kernel) ⟨Nat.le_of_ble_eq_true rfl, Nat.le_of_ble_eq_true rfl⟩) ⟨fun a U g mk q => by obtain ⟨q0, q1, qP, qK, qD⟩ := q; exact ⟨q0, q1, qP, va_K.moved (u := U) (U := U.calling g mk a) (Vm.Alike.refl U.vm) qK, qD⟩, va_recv hK hP (ci := 5) (q0 := 0) rfl rfl, fun U hU hW => ⟨rfl, by rw [hU], by rw [hU]; exact hPc, va_K.moved hW.alike hK, hDc.weaken (fun _ _ _ _ => trivial)⟩⟩ rfl rfl hl.1 rfl (lv_room (Nat.le_of_ble_eq_true rfl)) dX5_count_72 ⟨Nat.le_of_ble_eq_true rfl, Nat.le_of_ble_eq_true rfl⟩) hS (fun q _ h => hFc q h) hFc (fun r_3 u_3 t H1 locs ht hvm hw_3 hB hz1 hk1 hS => ?_)
    obtain ⟨hP, hD⟩ := va_join (A0 := fun _ => True) (wc := []) (wr := [(h0, .inr (5, [.ref (qa 0), .ref (qa 1), .ref (qa 2), .ref (qa 3), .ref (qa 4), .int 0, .int 0, .int 10, .int 100, .int 0, .int 0])), (qa 4, .inr (1, [.ref ro, .int 0]))]) (w1 := []) hP hD [] [0, 1] rfl rfl (by decide) (by decide) hk1 (fun _ _ => trivial) kt_P0 kt_D0
    generalize H1 = H at hP hS ⊢
    have hP : va_P (dC, dI) vwCl [(h0, .inr (5, [.ref (qa 0), .ref (qa 1), .ref (qa 2), .ref (qa 3), .ref (qa 4), .int 0, .int 0, .int 10, .int 100, .int 0, .int 0])), (qa 4, .inr (1, [.ref ro, .int 0]))] H := hP
    have hD : va_D (fun _ => True) [(h0, .inr (5, [.ref (qa 0), .ref (qa 1), .ref (qa 2), .ref (qa 3), .ref (qa 4), .int 0, .int 0, .int 10, .int 100, .int 0, .int 0])), (qa 4, .inr (1, [.ref ro, .int 0]))] := hD
    subst hw_3
    exact W.iret (v := 0) hx hb hr (fun t ht hW => ⟨⟨0, (), rfl, (by decide), trivial⟩, hS.F ht⟩) hS.2.2 dX5_count_75
  · subst g_1
    refine lv_tableIn (off := 75) (tgt := 76) hx hb dX5_count_1 (by decide) (by decide) (by decide) (by decide) ?_
    refine lv_aload_n hx hb dX5_count_76 rfl (lv_at hl 0 rfl) ?_
    refine va_get (D := (dC, dI)) (ci := 5) (v := .int 0) (C := RX5) (T := TX5) (N := 11) hx hb hts (fun w h => List.mem_cons_of_mem _ (inWX5 w h)) hown hK hP 0 rfl rfl 9 (by decide) (hts _ (List.mem_cons_of_mem _ kw_21)) (fun _ h9 => h9) rfl dX5_count_77 ?_
    exact W.iret (v := 0) hx hb hr (fun t ht hW => ⟨⟨0, (), rfl, (by decide), trivial⟩, hS.F ht⟩) hS.2.2 dX5_count_80
  · subst g_1
    refine lv_tableIn (off := 80) (tgt := 81) hx hb dX5_count_1 (by decide) (by decide) (by decide) (by decide) ?_
    refine lv_aload_n hx hb dX5_count_81 rfl (lv_at hl 0 rfl) ?_
    refine va_get (D := (dC, dI)) (ci := 5) (v := .int 0) (C := RX5) (T := TX5) (N := 11) hx hb hts (fun w h => List.mem_cons_of_mem _ (inWX5 w h)) hown hK hP 0 rfl rfl 10 (by decide) (hts _ (List.mem_cons_of_mem _ kw_22)) (fun _ h9 => h9) rfl dX5_count_82 ?_
    exact W.iret (v := 0) hx hb hr (fun t ht hW => ⟨⟨0, (), rfl, (by decide), trivial⟩, hS.F ht⟩) hS.2.2 dX5_count_85
  · subst g_1
    refine lv_tableIn (off := 85) (tgt := 86) hx hb dX5_count_1 (by decide) (by decide) (by decide) (by decide) ?_
    refine lv_aload_n hx hb dX5_count_86 rfl (lv_at hl 0 rfl) ?_
    have hPc := hP.sub (ws' := [(h0, .inr (5, [.ref (qa 0), .ref (qa 1), .ref (qa 2), .ref (qa 3), .ref (qa 4), .int 0, .int 0, .int 10, .int 100, .int 0, .int 0]))]) [0] rfl
    have hDc := hD.sub (ws' := [(h0, .inr (5, [.ref (qa 0), .ref (qa 1), .ref (qa 2), .ref (qa 3), .ref (qa 4), .int 0, .int 0, .int 10, .int 100, .int 0, .int 0]))]) [0] (by decide) rfl
    have hFc : ∀ q, va_A ([] : va_W) s.heap.size q → A q := va_free (wc := []) (ws := []) kt_D0 hS hA [] rfl
    refine va_calli (va_runV (As := []) (rest := []) ⟨hx, hb, hml, hown, hts⟩ (c_X5_secretsPastLife l dC dI cI cZ cS cC h0 s.heap.size qa) (cwV 0 hts (gV (fun w h => List.mem_cons_of_mem _ h) kw_24 kw_25 kw_26 kw_9 kw_23) rfl rfl rfl (by decide +kernel) ⟨Nat.le_of_ble_eq_true rfl, Nat.le_of_ble_eq_true rfl⟩) ⟨fun a U g mk q => by obtain ⟨q0, q1, qP, qK, qD⟩ := q; exact ⟨q0, q1, qP, va_K.moved (u := U) (U := U.calling g mk a) (Vm.Alike.refl U.vm) qK, qD⟩, va_recv hK hP (ci := 5) (q0 := 0) rfl rfl, fun U hU hW => ⟨rfl, by rw [hU], by rw [hU]; exact hPc, va_K.moved hW.alike hK, hDc.weaken (fun _ _ _ _ => trivial)⟩⟩ rfl rfl hl.1 rfl (lv_room (Nat.le_of_ble_eq_true rfl)) dX5_count_87 ⟨Nat.le_of_ble_eq_true rfl, Nat.le_of_ble_eq_true rfl⟩) hS (fun q _ h => hFc q h) hFc (fun r_4 u_4 t H1 locs ht hvm hw_4 hB hz1 hk1 hS => ?_)
    obtain ⟨hP, hD⟩ := va_join (A0 := fun _ => True) (wc := []) (wr := [(h0, .inr (5, [.ref (qa 0), .ref (qa 1), .ref (qa 2), .ref (qa 3), .ref (qa 4), .int 0, .int 0, .int 10, .int 100, .int 0, .int 0])), (qa 4, .inr (1, [.ref ro, .int 0]))]) (w1 := []) hP hD [] [0, 1] rfl rfl (by decide) (by decide) hk1 (fun _ _ => trivial) kt_P0 kt_D0
    generalize H1 = H at hP hS ⊢
    have hP : va_P (dC, dI) vwCl [(h0, .inr (5, [.ref (qa 0), .ref (qa 1), .ref (qa 2), .ref (qa 3), .ref (qa 4), .int 0, .int 0, .int 10, .int 100, .int 0, .int 0])), (qa 4, .inr (1, [.ref ro, .int 0]))] H := hP
    have hD : va_D (fun _ => True) [(h0, .inr (5, [.ref (qa 0), .ref (qa 1), .ref (qa 2), .ref (qa 3), .ref (qa 4), .int 0, .int 0, .int 10, .int 100, .int 0, .int 0])), (qa 4, .inr (1, [.ref ro, .int 0]))] := hD
    subst hw_4
    exact W.iret (v := 0) hx hb hr (fun t ht hW => ⟨⟨0, (), rfl, (by decide), trivial⟩, hS.F ht⟩) hS.2.2 dX5_count_90
  · refine lv_tableOut (tgt := 91) hx hb dX5_count_1 g_1 (by decide) ?_
    refine lv_iconst (v := (-1)) hx hb dX5_count_91 (by decide) ?_
    exact W.iret (v := (-1)) hx hb hr (fun t ht hW => ⟨⟨(-1), (), rfl, (by unfold sp_count; have z0 := g_1; (try simp only [Int32.lt_iff_toInt_lt, Int32.le_iff_toInt_le, ← Int32.toInt_inj, L0, L1, L5, L7, L10, L12, L15, L16, L20, L63, L1000, L1023, L2000, L10000, L100000, Lm1] at z0); rw [if_pos (by simp only [Int32.lt_iff_toInt_lt, Int32.le_iff_toInt_le, ← Int32.toInt_inj, L0, L1, L5, L7, L10, L12, L15, L16, L20, L63, L1000, L1023, L2000, L10000, L100000, Lm1]; omega)]), trivial⟩, hS.F ht⟩) hS.2.2 dX5_count_92

set_option maxHeartbeats 4000000 in
set_option maxRecDepth 100000 in
theorem c_X5_quiet (l : Launch) (dC : Nat → ClassId) (dI : Nat → Nat → Nat) (cI cZ cS cC : ClassId) (h0 sz : Nat) (qa : Nat → Nat) (p0 p1 : Int32) : Met l yX5_quiet (Cond.code yX5_quiet cX5_quiet 3 (some .boolean) :: WW) ({ frames := 1, cells := 0, slots := 0, locals := 30 }) (va_Pc [.ref h0, .int p0, .int p1] (fun U => U.heap.size = sz ∧ va_P (dC, dI) vwCl [(h0, .inr (5, [.ref (qa 0), .ref (qa 1), .ref (qa 2), .ref (qa 3), .ref (qa 4), .int 0, .int 0, .int 10, .int 100, .int 0, .int 0]))] U.heap ∧ va_K (dC, dI) vwCl [(cI, .int), (cZ, .boolean), (cS, .object RX3), (cC, .object RX0)] U ∧ va_D (fun _ => True) [(h0, .inr (5, [.ref (qa 0), .ref (qa 1), .ref (qa 2), .ref (qa 3), .ref (qa 4), .int 0, .int 0, .int 10, .int 100, .int 0, .int 0]))])) (va_Qi (fun (r : Int32) (_ : Unit) => r = sp_quiet p0 p1) (fun (_ : Unit) (_ : State) => True) (va_A [(h0, .inr (5, [.ref (qa 0), .ref (qa 1), .ref (qa 2), .ref (qa 3), .ref (qa 4), .int 0, .int 0, .int 10, .int 100, .int 0, .int 0]))] sz)) 0 0 (va_A [(h0, .inr (5, [.ref (qa 0), .ref (qa 1), .ref (qa 2), .ref (qa 3), .ref (qa 4), .int 0, .int 0, .int 10, .int 100, .int 0, .int 0]))] sz) := by
  refine Met.ofW (cc := cX5_quiet) (maxL := 3) (ret := (some .boolean)) (by decide) rfl ?_
  intro p e s m args below meth c s₁ B hml hv
  obtain ⟨rfl, hsz, hP, hK, hD0⟩ := hv
  have hx := B.exec
  have hb := B.bytes
  have hr := B.returns
  have hts := atoms_spec (ws := Cond.code yX5_quiet cX5_quiet 3 (some .boolean) :: WW) B.pre
  have hown : s.vm.findClass RX5 = some m.cls := findClass_of_methodNamed B.named
  have hlocks := B.notSynchronized
  subst hsz
  have hD := hD0.self (sz := s.heap.size)
  generalize hAe : va_A [(h0, .inr (5, [.ref (qa 0), .ref (qa 1), .ref (qa 2), .ref (qa 3), .ref (qa 4), .int 0, .int 0, .int 10, .int 100, .int 0, .int 0]))] s.heap.size = A at hD ⊢
  have hA : ∀ q : Nat, s.heap.size ≤ q → A q := fun q h => by rw [← hAe]; exact Or.inr h
  have hS : va_S A s.heap s.heap [] := va_S.rf
  have hP : va_P (dC, dI) vwCl [(h0, .inr (5, [.ref (qa 0), .ref (qa 1), .ref (qa 2), .ref (qa 3), .ref (qa 4), .int 0, .int 0, .int 10, .int 100, .int 0, .int 0]))] s.heap := hP
  have hl := lv_entry ([.ref h0, .int p0, .int p1]) (n := 3) (Nat.le_of_ble_eq_true rfl)
  rw [lg_entry_eq]
  generalize (lg_sl ([.ref h0, .int p0, .int p1]) ++ List.replicate (3 - (lg_sl ([.ref h0, .int p0, .int p1])).length) Slot.unset).toArray = ls at hl ⊢
  have hl : lv_has ls 3 [(0, .ref h0), (1, .int p0), (2, .int p1)] := hl
  refine lv_iload_n hx hb dX5_quiet_0 rfl (lv_at hl 1 rfl) ?_
  refine lv_if_lt (tgt := 22) hx hb dX5_quiet_1 (by decide) (fun c_1 => ?_) (fun c_1 => ?_)
  · refine lv_iconst (v := 0) hx hb dX5_quiet_22 (by decide) ?_
    exact W.zret (v := 0) (ty := .boolean) hx hb hr rfl (fun t ht hW => ⟨⟨0, (), rfl, (by unfold sp_quiet; have z0 := c_1; (try simp only [Int32.lt_iff_toInt_lt, Int32.le_iff_toInt_le, ← Int32.toInt_inj, L0, L1, L5, L7, L10, L12, L15, L16, L20, L63, L1000, L1023, L2000, L10000, L100000, Lm1] at z0); rw [if_pos (by simp only [Int32.lt_iff_toInt_lt, Int32.le_iff_toInt_le, ← Int32.toInt_inj, L0, L1, L5, L7, L10, L12, L15, L16, L20, L63, L1000, L1023, L2000, L10000, L100000, Lm1]; omega)]), trivial⟩, hS.F ht⟩) hS.2.2 dX5_quiet_23
  · refine lv_iload_n hx hb dX5_quiet_4 rfl (lv_at hl 1 rfl) ?_
    refine lv_sipush (v := 1000) hx hb dX5_quiet_5 (by decide) ?_
    refine lv_icmp_gt (tgt := 22) hx hb dX5_quiet_8 (by decide) (fun c_2 => ?_) (fun c_2 => ?_)
    · refine lv_iconst (v := 0) hx hb dX5_quiet_22 (by decide) ?_
      exact W.zret (v := 0) (ty := .boolean) hx hb hr rfl (fun t ht hW => ⟨⟨0, (), rfl, (by unfold sp_quiet; have z0 := c_1; have z1 := c_2; (try simp only [Int32.lt_iff_toInt_lt, Int32.le_iff_toInt_le, ← Int32.toInt_inj, L0, L1, L5, L7, L10, L12, L15, L16, L20, L63, L1000, L1023, L2000, L10000, L100000, Lm1] at z0 z1); rw [if_pos (by simp only [Int32.lt_iff_toInt_lt, Int32.le_iff_toInt_le, ← Int32.toInt_inj, L0, L1, L5, L7, L10, L12, L15, L16, L20, L63, L1000, L1023, L2000, L10000, L100000, Lm1]; omega)]), trivial⟩, hS.F ht⟩) hS.2.2 dX5_quiet_23
    · refine lv_iload_n hx hb dX5_quiet_11 rfl (lv_at hl 2 rfl) ?_
      refine lv_if_lt (tgt := 22) hx hb dX5_quiet_12 (by decide) (fun c_3 => ?_) (fun c_3 => ?_)
      · refine lv_iconst (v := 0) hx hb dX5_quiet_22 (by decide) ?_
        exact W.zret (v := 0) (ty := .boolean) hx hb hr rfl (fun t ht hW => ⟨⟨0, (), rfl, (by unfold sp_quiet; have z0 := c_1; have z1 := c_2; have z2 := c_3; (try simp only [Int32.lt_iff_toInt_lt, Int32.le_iff_toInt_le, ← Int32.toInt_inj, L0, L1, L5, L7, L10, L12, L15, L16, L20, L63, L1000, L1023, L2000, L10000, L100000, Lm1] at z0 z1 z2); rw [if_pos (by simp only [Int32.lt_iff_toInt_lt, Int32.le_iff_toInt_le, ← Int32.toInt_inj, L0, L1, L5, L7, L10, L12, L15, L16, L20, L63, L1000, L1023, L2000, L10000, L100000, Lm1]; omega)]), trivial⟩, hS.F ht⟩) hS.2.2 dX5_quiet_23
      · refine lv_iload_n hx hb dX5_quiet_15 rfl (lv_at hl 2 rfl) ?_
        refine lv_sipush (v := 10000) hx hb dX5_quiet_16 (by decide) ?_
        refine lv_icmp_le (tgt := 24) hx hb dX5_quiet_19 (by decide) (fun c_4 => ?_) (fun c_4 => ?_)
        · refine lv_aload_n hx hb dX5_quiet_24 rfl (lv_at hl 0 rfl) ?_
          refine lv_iload_n hx hb dX5_quiet_25 rfl (lv_at hl 1 rfl) ?_
          refine va_put (D := (dC, dI)) (ci := 5) (v := .int p0) (ty := .int) (C := RX5) (T := TX5) (N := 11) hx hb hts (fun w h => List.mem_cons_of_mem _ (inWX5 w h)) tyX5 tyX5_ok nmX5 hown hK hP hD hS 0 rfl rfl 7 (by decide) (hts _ (List.mem_cons_of_mem _ kw_27)) (fun _ h9 => h9) rfl (by decide +kernel) rfl rfl (Nat.le_of_ble_eq_true rfl) dX5_quiet_26 (fun H locs hP hD hS => ?_)
          have hP : va_P (dC, dI) vwCl [(h0, .inr (5, [.ref (qa 0), .ref (qa 1), .ref (qa 2), .ref (qa 3), .ref (qa 4), .int 0, .int 0, .int p0, .int 100, .int 0, .int 0]))] H := hP
          have hD : va_D A [(h0, .inr (5, [.ref (qa 0), .ref (qa 1), .ref (qa 2), .ref (qa 3), .ref (qa 4), .int 0, .int 0, .int p0, .int 100, .int 0, .int 0]))] := hD
          refine lv_aload_n hx hb dX5_quiet_29 rfl (lv_at hl 0 rfl) ?_
          refine lv_iload_n hx hb dX5_quiet_30 rfl (lv_at hl 2 rfl) ?_
          refine va_put (D := (dC, dI)) (ci := 5) (v := .int p1) (ty := .int) (C := RX5) (T := TX5) (N := 11) hx hb hts (fun w h => List.mem_cons_of_mem _ (inWX5 w h)) tyX5 tyX5_ok nmX5 hown hK hP hD hS 0 rfl rfl 8 (by decide) (hts _ (List.mem_cons_of_mem _ kw_28)) (fun _ h9 => h9) rfl (by decide +kernel) rfl rfl (Nat.le_of_ble_eq_true rfl) dX5_quiet_31 (fun H locs hP hD hS => ?_)
          have hP : va_P (dC, dI) vwCl [(h0, .inr (5, [.ref (qa 0), .ref (qa 1), .ref (qa 2), .ref (qa 3), .ref (qa 4), .int 0, .int 0, .int p0, .int p1, .int 0, .int 0]))] H := hP
          have hD : va_D A [(h0, .inr (5, [.ref (qa 0), .ref (qa 1), .ref (qa 2), .ref (qa 3), .ref (qa 4), .int 0, .int 0, .int p0, .int p1, .int 0, .int 0]))] := hD
          refine lv_iconst (v := 1) hx hb dX5_quiet_34 (by decide) ?_
          exact W.zret (v := 1) (ty := .boolean) hx hb hr rfl (fun t ht hW => ⟨⟨1, (), rfl, (by unfold sp_quiet; have z0 := c_1; have z1 := c_2; have z2 := c_3; have z3 := c_4; (try simp only [Int32.lt_iff_toInt_lt, Int32.le_iff_toInt_le, ← Int32.toInt_inj, L0, L1, L5, L7, L10, L12, L15, L16, L20, L63, L1000, L1023, L2000, L10000, L100000, Lm1] at z0 z1 z2 z3); rw [if_neg (by simp only [Int32.lt_iff_toInt_lt, Int32.le_iff_toInt_le, ← Int32.toInt_inj, L0, L1, L5, L7, L10, L12, L15, L16, L20, L63, L1000, L1023, L2000, L10000, L100000, Lm1]; omega)]), trivial⟩, hS.F ht⟩) hS.2.2 dX5_quiet_35
        · refine lv_iconst (v := 0) hx hb dX5_quiet_22 (by decide) ?_
          exact W.zret (v := 0) (ty := .boolean) hx hb hr rfl (fun t ht hW => ⟨⟨0, (), rfl, (by unfold sp_quiet; have z0 := c_1; have z1 := c_2; have z2 := c_3; have z3 := c_4; (try simp only [Int32.lt_iff_toInt_lt, Int32.le_iff_toInt_le, ← Int32.toInt_inj, L0, L1, L5, L7, L10, L12, L15, L16, L20, L63, L1000, L1023, L2000, L10000, L100000, Lm1] at z0 z1 z2 z3); rw [if_pos (by simp only [Int32.lt_iff_toInt_lt, Int32.le_iff_toInt_le, ← Int32.toInt_inj, L0, L1, L5, L7, L10, L12, L15, L16, L20, L63, L1000, L1023, L2000, L10000, L100000, Lm1]; omega)]), trivial⟩, hS.F ht⟩) hS.2.2 dX5_quiet_23

set_option maxHeartbeats 4000000 in
set_option maxRecDepth 100000 in
theorem c_X5_delay (l : Launch) (dC : Nat → ClassId) (dI : Nat → Nat → Nat) (cI cZ cS cC : ClassId) (h0 sz : Nat) (qa : Nat → Nat) (fd : Nat → Int32) (p0 p1 : Int32) : Met l yX5_delay (Cond.code yX5_delay cX5_delay 3 (some .boolean) :: WW) ({ frames := 1, cells := 0, slots := 0, locals := 30 }) (va_Pc [.ref h0, .int p0, .int p1] (fun U => U.heap.size = sz ∧ va_P (dC, dI) vwCl [(h0, .inr (5, [.ref (qa 0), .ref (qa 1), .ref (qa 2), .ref (qa 3), .ref (qa 4), .int 0, .int 0, .int 10, .int 100, .int 0, .int 0])), (qa 3, .inr (2, [.ref (qa 6), .int 0])), (qa 6, .inl (cI, 16, .inl fd))] U.heap ∧ va_K (dC, dI) vwCl [(cI, .int), (cZ, .boolean), (cS, .object RX3), (cC, .object RX0)] U ∧ va_D (fun _ => True) [(h0, .inr (5, [.ref (qa 0), .ref (qa 1), .ref (qa 2), .ref (qa 3), .ref (qa 4), .int 0, .int 0, .int 10, .int 100, .int 0, .int 0])), (qa 3, .inr (2, [.ref (qa 6), .int 0])), (qa 6, .inl (cI, 16, .inl fd))])) (va_Qi (fun (r : Int32) (_ : Unit) => r = sp_delay p0 p1) (fun (_ : Unit) (_ : State) => True) (va_A [(h0, .inr (5, [.ref (qa 0), .ref (qa 1), .ref (qa 2), .ref (qa 3), .ref (qa 4), .int 0, .int 0, .int 10, .int 100, .int 0, .int 0])), (qa 3, .inr (2, [.ref (qa 6), .int 0])), (qa 6, .inl (cI, 16, .inl fd))] sz)) 0 0 (va_A [(h0, .inr (5, [.ref (qa 0), .ref (qa 1), .ref (qa 2), .ref (qa 3), .ref (qa 4), .int 0, .int 0, .int 10, .int 100, .int 0, .int 0])), (qa 3, .inr (2, [.ref (qa 6), .int 0])), (qa 6, .inl (cI, 16, .inl fd))] sz) := by
  refine Met.ofW (cc := cX5_delay) (maxL := 3) (ret := (some .boolean)) (by decide) rfl ?_
  intro p e s m args below meth c s₁ B hml hv
  obtain ⟨rfl, hsz, hP, hK, hD0⟩ := hv
  have hx := B.exec
  have hb := B.bytes
  have hr := B.returns
  have hts := atoms_spec (ws := Cond.code yX5_delay cX5_delay 3 (some .boolean) :: WW) B.pre
  have hown : s.vm.findClass RX5 = some m.cls := findClass_of_methodNamed B.named
  have hlocks := B.notSynchronized
  subst hsz
  have hD := hD0.self (sz := s.heap.size)
  generalize hAe : va_A [(h0, .inr (5, [.ref (qa 0), .ref (qa 1), .ref (qa 2), .ref (qa 3), .ref (qa 4), .int 0, .int 0, .int 10, .int 100, .int 0, .int 0])), (qa 3, .inr (2, [.ref (qa 6), .int 0])), (qa 6, .inl (cI, 16, .inl fd))] s.heap.size = A at hD ⊢
  have hA : ∀ q : Nat, s.heap.size ≤ q → A q := fun q h => by rw [← hAe]; exact Or.inr h
  have hS : va_S A s.heap s.heap [] := va_S.rf
  have hP : va_P (dC, dI) vwCl [(h0, .inr (5, [.ref (qa 0), .ref (qa 1), .ref (qa 2), .ref (qa 3), .ref (qa 4), .int 0, .int 0, .int 10, .int 100, .int 0, .int 0])), (qa 3, .inr (2, [.ref (qa 6), .int 0])), (qa 6, .inl (cI, 16, .inl fd))] s.heap := hP
  have hl := lv_entry ([.ref h0, .int p0, .int p1]) (n := 3) (Nat.le_of_ble_eq_true rfl)
  rw [lg_entry_eq]
  generalize (lg_sl ([.ref h0, .int p0, .int p1]) ++ List.replicate (3 - (lg_sl ([.ref h0, .int p0, .int p1])).length) Slot.unset).toArray = ls at hl ⊢
  have hl : lv_has ls 3 [(0, .ref h0), (1, .int p0), (2, .int p1)] := hl
  refine lv_iload_n hx hb dX5_delay_0 rfl (lv_at hl 1 rfl) ?_
  refine lv_if_lt (tgt := 20) hx hb dX5_delay_1 (by decide) (fun c_1 => ?_) (fun c_1 => ?_)
  · refine lv_iconst (v := 0) hx hb dX5_delay_20 (by decide) ?_
    exact W.zret (v := 0) (ty := .boolean) hx hb hr rfl (fun t ht hW => ⟨⟨0, (), rfl, (by unfold sp_delay; have z0 := c_1; (try simp only [Int32.lt_iff_toInt_lt, Int32.le_iff_toInt_le, ← Int32.toInt_inj, L0, L1, L5, L7, L10, L12, L15, L16, L20, L63, L1000, L1023, L2000, L10000, L100000, Lm1] at z0); rw [if_pos (by simp only [Int32.lt_iff_toInt_lt, Int32.le_iff_toInt_le, ← Int32.toInt_inj, L0, L1, L5, L7, L10, L12, L15, L16, L20, L63, L1000, L1023, L2000, L10000, L100000, Lm1]; omega)]), trivial⟩, hS.F ht⟩) hS.2.2 dX5_delay_21
  · refine lv_iload_n hx hb dX5_delay_4 rfl (lv_at hl 1 rfl) ?_
    refine lv_bipush (v := 16) hx hb dX5_delay_5 (by decide) ?_
    refine lv_icmp_ge (tgt := 20) hx hb dX5_delay_7 (by decide) (fun c_2 => ?_) (fun c_2 => ?_)
    · refine lv_iconst (v := 0) hx hb dX5_delay_20 (by decide) ?_
      exact W.zret (v := 0) (ty := .boolean) hx hb hr rfl (fun t ht hW => ⟨⟨0, (), rfl, (by unfold sp_delay; have z0 := c_1; have z1 := c_2; (try simp only [Int32.lt_iff_toInt_lt, Int32.le_iff_toInt_le, ← Int32.toInt_inj, L0, L1, L5, L7, L10, L12, L15, L16, L20, L63, L1000, L1023, L2000, L10000, L100000, Lm1] at z0 z1); rw [if_pos (by simp only [Int32.lt_iff_toInt_lt, Int32.le_iff_toInt_le, ← Int32.toInt_inj, L0, L1, L5, L7, L10, L12, L15, L16, L20, L63, L1000, L1023, L2000, L10000, L100000, Lm1]; omega)]), trivial⟩, hS.F ht⟩) hS.2.2 dX5_delay_21
    · refine lv_iload_n hx hb dX5_delay_10 rfl (lv_at hl 2 rfl) ?_
      refine lv_if_lt (tgt := 20) hx hb dX5_delay_11 (by decide) (fun c_3 => ?_) (fun c_3 => ?_)
      · refine lv_iconst (v := 0) hx hb dX5_delay_20 (by decide) ?_
        exact W.zret (v := 0) (ty := .boolean) hx hb hr rfl (fun t ht hW => ⟨⟨0, (), rfl, (by unfold sp_delay; have z0 := c_1; have z1 := c_2; have z2 := c_3; (try simp only [Int32.lt_iff_toInt_lt, Int32.le_iff_toInt_le, ← Int32.toInt_inj, L0, L1, L5, L7, L10, L12, L15, L16, L20, L63, L1000, L1023, L2000, L10000, L100000, Lm1] at z0 z1 z2); rw [if_pos (by simp only [Int32.lt_iff_toInt_lt, Int32.le_iff_toInt_le, ← Int32.toInt_inj, L0, L1, L5, L7, L10, L12, L15, L16, L20, L63, L1000, L1023, L2000, L10000, L100000, Lm1]; omega)]), trivial⟩, hS.F ht⟩) hS.2.2 dX5_delay_21
      · refine lv_iload_n hx hb dX5_delay_14 rfl (lv_at hl 2 rfl) ?_
        refine lv_bipush (v := 20) hx hb dX5_delay_15 (by decide) ?_
        refine lv_icmp_le (tgt := 22) hx hb dX5_delay_17 (by decide) (fun c_4 => ?_) (fun c_4 => ?_)
        · refine lv_aload_n hx hb dX5_delay_22 rfl (lv_at hl 0 rfl) ?_
          refine va_get (D := (dC, dI)) (ci := 5) (v := .ref (qa 3)) (C := RX5) (T := TX5) (N := 11) hx hb hts (fun w h => List.mem_cons_of_mem _ (inWX5 w h)) hown hK hP 0 rfl rfl 3 (by decide) (hts _ (List.mem_cons_of_mem _ kw_29)) (fun _ h9 => h9) rfl dX5_delay_23 ?_
          refine va_get (D := (dC, dI)) (ci := 2) (v := .ref (qa 6)) (C := RX2) (T := TX2) (N := 2) hx hb hts (fun w h => List.mem_cons_of_mem _ (inWX2 w h)) hown hK hP 1 rfl rfl 0 (by decide) (hts _ (List.mem_cons_of_mem _ kw_30)) (fun _ h9 => h9) rfl dX5_delay_26 ?_
          refine lv_iload_n hx hb dX5_delay_29 rfl (lv_at hl 1 rfl) ?_
          refine lv_iload_n hx hb dX5_delay_30 rfl (lv_at hl 2 rfl) ?_
          refine va_iast hx hb hK hP hD hS 2 0 rfl rfl (vp_in_iff.mpr (by have z0 := c_1; have z1 := c_2; have z2 := c_3; have z3 := c_4; simp only [Int32.lt_iff_toInt_lt, Int32.le_iff_toInt_le, L0, L1, L5, L16, L10, L12, L15, L20, L63, L1000, L1023, L2000, L10000, L100000, Lm1] at z0 z1 z2 z3; omega)) dX5_delay_31 (fun H locs hP hD hS => ?_)
          obtain ⟨f_5, ef_5⟩ : ∃ f : Nat → Int32, f = upd fd (p0 : Int32).toNatClampNeg (p1) := ⟨_, rfl⟩
          have hP : va_P (dC, dI) vwCl [(h0, .inr (5, [.ref (qa 0), .ref (qa 1), .ref (qa 2), .ref (qa 3), .ref (qa 4), .int 0, .int 0, .int 10, .int 100, .int 0, .int 0])), (qa 3, .inr (2, [.ref (qa 6), .int 0])), (qa 6, .inl (cI, 16, .inl f_5))] H := by rw [ef_5]; exact hP
          have hD : va_D A [(h0, .inr (5, [.ref (qa 0), .ref (qa 1), .ref (qa 2), .ref (qa 3), .ref (qa 4), .int 0, .int 0, .int 10, .int 100, .int 0, .int 0])), (qa 3, .inr (2, [.ref (qa 6), .int 0])), (qa 6, .inl (cI, 16, .inl f_5))] := by rw [ef_5]; exact hD
          clear ef_5
          refine lv_iconst (v := 1) hx hb dX5_delay_32 (by decide) ?_
          exact W.zret (v := 1) (ty := .boolean) hx hb hr rfl (fun t ht hW => ⟨⟨1, (), rfl, (by unfold sp_delay; have z0 := c_1; have z1 := c_2; have z2 := c_3; have z3 := c_4; (try simp only [Int32.lt_iff_toInt_lt, Int32.le_iff_toInt_le, ← Int32.toInt_inj, L0, L1, L5, L7, L10, L12, L15, L16, L20, L63, L1000, L1023, L2000, L10000, L100000, Lm1] at z0 z1 z2 z3); rw [if_neg (by simp only [Int32.lt_iff_toInt_lt, Int32.le_iff_toInt_le, ← Int32.toInt_inj, L0, L1, L5, L7, L10, L12, L15, L16, L20, L63, L1000, L1023, L2000, L10000, L100000, Lm1]; omega)]), trivial⟩, hS.F ht⟩) hS.2.2 dX5_delay_33
        · refine lv_iconst (v := 0) hx hb dX5_delay_20 (by decide) ?_
          exact W.zret (v := 0) (ty := .boolean) hx hb hr rfl (fun t ht hW => ⟨⟨0, (), rfl, (by unfold sp_delay; have z0 := c_1; have z1 := c_2; have z2 := c_3; have z3 := c_4; (try simp only [Int32.lt_iff_toInt_lt, Int32.le_iff_toInt_le, ← Int32.toInt_inj, L0, L1, L5, L7, L10, L12, L15, L16, L20, L63, L1000, L1023, L2000, L10000, L100000, Lm1] at z0 z1 z2 z3); rw [if_pos (by simp only [Int32.lt_iff_toInt_lt, Int32.le_iff_toInt_le, ← Int32.toInt_inj, L0, L1, L5, L7, L10, L12, L15, L16, L20, L63, L1000, L1023, L2000, L10000, L100000, Lm1]; omega)]), trivial⟩, hS.F ht⟩) hS.2.2 dX5_delay_21

set_option maxHeartbeats 4000000 in
set_option maxRecDepth 100000 in
theorem c_X5_down (l : Launch) (dC : Nat → ClassId) (dI : Nat → Nat → Nat) (cI cZ cS cC : ClassId) (h0 sz : Nat) (qa : Nat → Nat) (p0 p1 : Int32) : Met l yX5_down (Cond.code yX5_down cX5_down 3 (some .boolean) :: WW) ({ frames := 1, cells := 0, slots := 0, locals := 30 }) (va_Pc [.ref h0, .int p0, .int p1] (fun U => U.heap.size = sz ∧ va_P (dC, dI) vwCl [(h0, .inr (5, [.ref (qa 0), .ref (qa 1), .ref (qa 2), .ref (qa 3), .ref (qa 4), .int 0, .int 0, .int 10, .int 100, .int 0, .int 0])), (qa 3, .inr (2, [.ref (qa 6), .int 0]))] U.heap ∧ va_K (dC, dI) vwCl [(cI, .int), (cZ, .boolean), (cS, .object RX3), (cC, .object RX0)] U ∧ va_D (fun _ => True) [(h0, .inr (5, [.ref (qa 0), .ref (qa 1), .ref (qa 2), .ref (qa 3), .ref (qa 4), .int 0, .int 0, .int 10, .int 100, .int 0, .int 0])), (qa 3, .inr (2, [.ref (qa 6), .int 0]))])) (va_Qi (fun (r : Int32) (_ : Unit) => r = sp_down p0 p1) (fun (_ : Unit) (_ : State) => True) (va_A [(h0, .inr (5, [.ref (qa 0), .ref (qa 1), .ref (qa 2), .ref (qa 3), .ref (qa 4), .int 0, .int 0, .int 10, .int 100, .int 0, .int 0])), (qa 3, .inr (2, [.ref (qa 6), .int 0]))] sz)) 0 0 (va_A [(h0, .inr (5, [.ref (qa 0), .ref (qa 1), .ref (qa 2), .ref (qa 3), .ref (qa 4), .int 0, .int 0, .int 10, .int 100, .int 0, .int 0])), (qa 3, .inr (2, [.ref (qa 6), .int 0]))] sz) := by
  refine Met.ofW (cc := cX5_down) (maxL := 3) (ret := (some .boolean)) (by decide) rfl ?_
  intro p e s m args below meth c s₁ B hml hv
  obtain ⟨rfl, hsz, hP, hK, hD0⟩ := hv
  have hx := B.exec
  have hb := B.bytes
  have hr := B.returns
  have hts := atoms_spec (ws := Cond.code yX5_down cX5_down 3 (some .boolean) :: WW) B.pre
  have hown : s.vm.findClass RX5 = some m.cls := findClass_of_methodNamed B.named
  have hlocks := B.notSynchronized
  subst hsz
  have hD := hD0.self (sz := s.heap.size)
  generalize hAe : va_A [(h0, .inr (5, [.ref (qa 0), .ref (qa 1), .ref (qa 2), .ref (qa 3), .ref (qa 4), .int 0, .int 0, .int 10, .int 100, .int 0, .int 0])), (qa 3, .inr (2, [.ref (qa 6), .int 0]))] s.heap.size = A at hD ⊢
  have hA : ∀ q : Nat, s.heap.size ≤ q → A q := fun q h => by rw [← hAe]; exact Or.inr h
  have hS : va_S A s.heap s.heap [] := va_S.rf
  have hP : va_P (dC, dI) vwCl [(h0, .inr (5, [.ref (qa 0), .ref (qa 1), .ref (qa 2), .ref (qa 3), .ref (qa 4), .int 0, .int 0, .int 10, .int 100, .int 0, .int 0])), (qa 3, .inr (2, [.ref (qa 6), .int 0]))] s.heap := hP
  have hl := lv_entry ([.ref h0, .int p0, .int p1]) (n := 3) (Nat.le_of_ble_eq_true rfl)
  rw [lg_entry_eq]
  generalize (lg_sl ([.ref h0, .int p0, .int p1]) ++ List.replicate (3 - (lg_sl ([.ref h0, .int p0, .int p1])).length) Slot.unset).toArray = ls at hl ⊢
  have hl : lv_has ls 3 [(0, .ref h0), (1, .int p0), (2, .int p1)] := hl
  refine lv_iload_n hx hb dX5_down_0 rfl (lv_at hl 1 rfl) ?_
  refine lv_if_lt (tgt := 22) hx hb dX5_down_1 (by decide) (fun c_1 => ?_) (fun c_1 => ?_)
  · refine lv_iconst (v := 0) hx hb dX5_down_22 (by decide) ?_
    exact W.zret (v := 0) (ty := .boolean) hx hb hr rfl (fun t ht hW => ⟨⟨0, (), rfl, (by unfold sp_down; have z0 := c_1; (try simp only [Int32.lt_iff_toInt_lt, Int32.le_iff_toInt_le, ← Int32.toInt_inj, L0, L1, L5, L7, L10, L12, L15, L16, L20, L63, L1000, L1023, L2000, L10000, L100000, Lm1] at z0); rw [if_pos (by simp only [Int32.lt_iff_toInt_lt, Int32.le_iff_toInt_le, ← Int32.toInt_inj, L0, L1, L5, L7, L10, L12, L15, L16, L20, L63, L1000, L1023, L2000, L10000, L100000, Lm1]; omega)]), trivial⟩, hS.F ht⟩) hS.2.2 dX5_down_23
  · refine lv_iload_n hx hb dX5_down_4 rfl (lv_at hl 1 rfl) ?_
    refine lv_bipush (v := 16) hx hb dX5_down_5 (by decide) ?_
    refine lv_icmp_gt (tgt := 22) hx hb dX5_down_7 (by decide) (fun c_2 => ?_) (fun c_2 => ?_)
    · refine lv_iconst (v := 0) hx hb dX5_down_22 (by decide) ?_
      exact W.zret (v := 0) (ty := .boolean) hx hb hr rfl (fun t ht hW => ⟨⟨0, (), rfl, (by unfold sp_down; have z0 := c_1; have z1 := c_2; (try simp only [Int32.lt_iff_toInt_lt, Int32.le_iff_toInt_le, ← Int32.toInt_inj, L0, L1, L5, L7, L10, L12, L15, L16, L20, L63, L1000, L1023, L2000, L10000, L100000, Lm1] at z0 z1); rw [if_pos (by simp only [Int32.lt_iff_toInt_lt, Int32.le_iff_toInt_le, ← Int32.toInt_inj, L0, L1, L5, L7, L10, L12, L15, L16, L20, L63, L1000, L1023, L2000, L10000, L100000, Lm1]; omega)]), trivial⟩, hS.F ht⟩) hS.2.2 dX5_down_23
    · refine lv_aload_n hx hb dX5_down_10 rfl (lv_at hl 0 rfl) ?_
      refine va_get (D := (dC, dI)) (ci := 5) (v := .ref (qa 3)) (C := RX5) (T := TX5) (N := 11) hx hb hts (fun w h => List.mem_cons_of_mem _ (inWX5 w h)) hown hK hP 0 rfl rfl 3 (by decide) (hts _ (List.mem_cons_of_mem _ kw_29)) (fun _ h9 => h9) rfl dX5_down_11 ?_
      refine lv_iload_n hx hb dX5_down_14 rfl (lv_at hl 1 rfl) ?_
      have hPc := hP.sub (ws' := [(qa 3, .inr (2, [.ref (qa 6), .int 0]))]) [1] rfl
      have hDc := hD.sub (ws' := [(qa 3, .inr (2, [.ref (qa 6), .int 0]))]) [1] (by decide) rfl
      have hFc : ∀ q, va_A ([] : va_W) s.heap.size q → A q := va_free (wc := []) (ws := []) kt_D0 hS hA [] rfl
      refine va_calli (va_runV (As := [.int p0]) (rest := []) ⟨hx, hb, hml, hown, hts⟩ (c_X2_isDown l dC dI cI cZ cS cC (qa 3) s.heap.size qa (qa 6) p0) (cwV 1 hts (gV (fun w h => List.mem_cons_of_mem _ h) kw_32 kw_33 kw_34 kw_35 kw_31) rfl rfl rfl (by decide +kernel) ⟨Nat.le_of_ble_eq_true rfl, Nat.le_of_ble_eq_true rfl⟩) ⟨fun a U g mk q => by obtain ⟨q0, q1, qP, qK, qD⟩ := q; exact ⟨q0, q1, qP, va_K.moved (u := U) (U := U.calling g mk a) (Vm.Alike.refl U.vm) qK, qD⟩, va_recv hK hP (ci := 2) (q0 := 1) rfl rfl, fun U hU hW => ⟨rfl, by rw [hU], by rw [hU]; exact hPc, va_K.moved hW.alike hK, hDc.weaken (fun _ _ _ _ => trivial)⟩⟩ rfl rfl hl.1 rfl (lv_room (Nat.le_of_ble_eq_true rfl)) dX5_down_15 ⟨Nat.le_of_ble_eq_true rfl, Nat.le_of_ble_eq_true rfl⟩) hS (fun q _ h => hFc q h) hFc (fun r_3 u_3 t H1 locs ht hvm hw_3 hB hz1 hk1 hS => ?_)
      obtain ⟨hP, hD⟩ := va_join (wc := []) (wr := [(h0, .inr (5, [.ref (qa 0), .ref (qa 1), .ref (qa 2), .ref (qa 3), .ref (qa 4), .int 0, .int 0, .int 10, .int 100, .int 0, .int 0])), (qa 3, .inr (2, [.ref (qa 6), .int 0]))]) (w1 := []) hP hD [] [0, 1] rfl rfl (by decide) (by decide) hk1 hFc kt_P0 kt_D0
      generalize H1 = H at hP hS ⊢
      have hP : va_P (dC, dI) vwCl [(h0, .inr (5, [.ref (qa 0), .ref (qa 1), .ref (qa 2), .ref (qa 3), .ref (qa 4), .int 0, .int 0, .int 10, .int 100, .int 0, .int 0])), (qa 3, .inr (2, [.ref (qa 6), .int 0]))] H := hP
      have hD : va_D A [(h0, .inr (5, [.ref (qa 0), .ref (qa 1), .ref (qa 2), .ref (qa 3), .ref (qa 4), .int 0, .int 0, .int 10, .int 100, .int 0, .int 0])), (qa 3, .inr (2, [.ref (qa 6), .int 0]))] := hD
      subst hw_3
      refine lv_iload_n hx hb dX5_down_18 rfl (lv_at hl 2 rfl) ?_
      refine lv_icmp_ne (tgt := 24) hx hb dX5_down_19 (by decide) (fun c_4 => ?_) (fun c_4 => ?_)
      · refine lv_aload_n hx hb dX5_down_24 rfl (lv_at hl 0 rfl) ?_
        refine va_get (D := (dC, dI)) (ci := 5) (v := .ref (qa 3)) (C := RX5) (T := TX5) (N := 11) hx hb hts (fun w h => List.mem_cons_of_mem _ (inWX5 w h)) hown hK hP 0 rfl rfl 3 (by decide) (hts _ (List.mem_cons_of_mem _ kw_29)) (fun _ h9 => h9) rfl dX5_down_25 ?_
        refine lv_dup hx hb dX5_down_28 rfl ?_
        refine va_get (D := (dC, dI)) (ci := 2) (v := .int 0) (C := RX2) (T := TX2) (N := 2) hx hb hts (fun w h => List.mem_cons_of_mem _ (inWX2 w h)) hown hK hP 1 rfl rfl 1 (by decide) (hts _ (List.mem_cons_of_mem _ kw_36)) (fun _ h9 => h9) rfl dX5_down_29 ?_
        refine lv_iconst (v := 1) hx hb dX5_down_32 (by decide) ?_
        refine lv_iload_n hx hb dX5_down_33 rfl (lv_at hl 1 rfl) ?_
        refine lv_ishl hx hb dX5_down_34 ?_
        refine lv_topi (fun t_5 et_5 => ?_)
        refine lv_ixor hx hb dX5_down_35 ?_
        refine lv_topi (fun t_6 et_6 => ?_)
        refine va_put (D := (dC, dI)) (ci := 2) (v := .int t_6) (ty := .int) (C := RX2) (T := TX2) (N := 2) hx hb hts (fun w h => List.mem_cons_of_mem _ (inWX2 w h)) tyX2 tyX2_ok nmX2 hown hK hP hD hS 1 rfl rfl 1 (by decide) (hts _ (List.mem_cons_of_mem _ kw_36)) (fun _ h9 => h9) rfl (by decide +kernel) rfl rfl (Nat.le_of_ble_eq_true rfl) dX5_down_36 (fun H locs hP hD hS => ?_)
        have hP : va_P (dC, dI) vwCl [(h0, .inr (5, [.ref (qa 0), .ref (qa 1), .ref (qa 2), .ref (qa 3), .ref (qa 4), .int 0, .int 0, .int 10, .int 100, .int 0, .int 0])), (qa 3, .inr (2, [.ref (qa 6), .int t_6]))] H := hP
        have hD : va_D A [(h0, .inr (5, [.ref (qa 0), .ref (qa 1), .ref (qa 2), .ref (qa 3), .ref (qa 4), .int 0, .int 0, .int 10, .int 100, .int 0, .int 0])), (qa 3, .inr (2, [.ref (qa 6), .int t_6]))] := hD
        refine lv_iconst (v := 1) hx hb dX5_down_39 (by decide) ?_
        exact W.zret (v := 1) (ty := .boolean) hx hb hr rfl (fun t ht hW => ⟨⟨1, (), rfl, (by unfold sp_down; have z0 := c_1; have z1 := c_2; have z2 := c_4; (try simp only [Int32.lt_iff_toInt_lt, Int32.le_iff_toInt_le, ← Int32.toInt_inj, L0, L1, L5, L7, L10, L12, L15, L16, L20, L63, L1000, L1023, L2000, L10000, L100000, Lm1] at z0 z1 z2); rw [if_neg (by simp only [Int32.lt_iff_toInt_lt, Int32.le_iff_toInt_le, ← Int32.toInt_inj, L0, L1, L5, L7, L10, L12, L15, L16, L20, L63, L1000, L1023, L2000, L10000, L100000, Lm1]; omega)]), trivial⟩, hS.F ht⟩) hS.2.2 dX5_down_40
      · refine lv_iconst (v := 0) hx hb dX5_down_22 (by decide) ?_
        exact W.zret (v := 0) (ty := .boolean) hx hb hr rfl (fun t ht hW => ⟨⟨0, (), rfl, (by unfold sp_down; have z0 := c_1; have z1 := c_2; have z2 := c_4; (try simp only [Int32.lt_iff_toInt_lt, Int32.le_iff_toInt_le, ← Int32.toInt_inj, L0, L1, L5, L7, L10, L12, L15, L16, L20, L63, L1000, L1023, L2000, L10000, L100000, Lm1] at z0 z1 z2); rw [if_pos (by simp only [Int32.lt_iff_toInt_lt, Int32.le_iff_toInt_le, ← Int32.toInt_inj, L0, L1, L5, L7, L10, L12, L15, L16, L20, L63, L1000, L1023, L2000, L10000, L100000, Lm1]; omega)]), trivial⟩, hS.F ht⟩) hS.2.2 dX5_down_23

set_option maxHeartbeats 4000000 in
set_option maxRecDepth 100000 in
theorem c_X5_nextStir (l : Launch) (dC : Nat → ClassId) (dI : Nat → Nat → Nat) (cI cZ cS cC : ClassId) (h0 sz : Nat) (qa : Nat → Nat) (p0 : Int32) : Met l yX5_nextStir (Cond.code yX5_nextStir cX5_nextStir 4 (some .int) :: WW) ({ frames := 1, cells := 0, slots := 0, locals := 30 }) (va_Pc [.ref h0, .int p0] (fun U => U.heap.size = sz ∧ va_P (dC, dI) vwCl [(h0, .inr (5, [.ref (qa 0), .ref (qa 1), .ref (qa 2), .ref (qa 3), .ref (qa 4), .int 0, .int 0, .int 10, .int 100, .int 0, .int 0]))] U.heap ∧ va_K (dC, dI) vwCl [(cI, .int), (cZ, .boolean), (cS, .object RX3), (cC, .object RX0)] U ∧ va_D (fun _ => True) [(h0, .inr (5, [.ref (qa 0), .ref (qa 1), .ref (qa 2), .ref (qa 3), .ref (qa 4), .int 0, .int 0, .int 10, .int 100, .int 0, .int 0]))])) (va_Qi (fun (r : Int32) (_ : Unit) => r = (if p0 < 1 then 1 else p0)) (fun (_ : Unit) (_ : State) => True) (va_A [] sz)) 0 0 (va_A [] sz) := by
  refine Met.ofW (cc := cX5_nextStir) (maxL := 4) (ret := (some .int)) (by decide) rfl ?_
  intro p e s m args below meth c s₁ B hml hv
  obtain ⟨rfl, hsz, hP, hK, hD0⟩ := hv
  have hx := B.exec
  have hb := B.bytes
  have hr := B.returns
  have hts := atoms_spec (ws := Cond.code yX5_nextStir cX5_nextStir 4 (some .int) :: WW) B.pre
  have hown : s.vm.findClass RX5 = some m.cls := findClass_of_methodNamed B.named
  have hlocks := B.notSynchronized
  subst hsz
  have hD := hD0
  generalize hAe : va_A [] s.heap.size = A
  have hA : ∀ q : Nat, s.heap.size ≤ q → A q := fun q h => by rw [← hAe]; exact Or.inr h
  have hS : va_S A s.heap s.heap [] := va_S.rf
  have hP : va_P (dC, dI) vwCl [(h0, .inr (5, [.ref (qa 0), .ref (qa 1), .ref (qa 2), .ref (qa 3), .ref (qa 4), .int 0, .int 0, .int 10, .int 100, .int 0, .int 0]))] s.heap := hP
  have hl := lv_entry ([.ref h0, .int p0]) (n := 4) (Nat.le_of_ble_eq_true rfl)
  rw [lg_entry_eq]
  generalize (lg_sl ([.ref h0, .int p0]) ++ List.replicate (4 - (lg_sl ([.ref h0, .int p0])).length) Slot.unset).toArray = ls at hl ⊢
  have hl : lv_has ls 4 [(0, .ref h0), (1, .int p0)] := hl
  refine lv_iload_n hx hb dX5_nextStir_0 rfl (lv_at hl 1 rfl) ?_
  refine lv_istore_n (lv' := [(2, .int p0), (0, .ref h0), (1, .int p0)]) hx hb dX5_nextStir_1 rfl hl (by decide) rfl (fun ls hl => ?_)
  refine lv_iconst (v := 0) hx hb dX5_nextStir_2 (by decide) ?_
  refine lv_istore_n (lv' := [(3, .int 0), (2, .int p0), (0, .ref h0), (1, .int p0)]) hx hb dX5_nextStir_3 rfl hl (by decide) rfl (fun ls hl => ?_)
  refine lv_iload_n hx hb dX5_nextStir_4 rfl (lv_at hl 0 rfl) ?_
  refine lv_aload_n hx hb dX5_nextStir_5 rfl (lv_at hl 2 rfl) ?_
  refine va_get (D := (dC, dI)) (ci := 5) (v := .int 0) (C := RX5) (T := TX5) (N := 11) hx hb hts (fun w h => List.mem_cons_of_mem _ (inWX5 w h)) hown hK hP 0 rfl rfl 5 (by decide) (hts _ (List.mem_cons_of_mem _ kw_0)) (fun _ h9 => h9) rfl dX5_nextStir_6 ?_
  refine lv_icmp_ge (tgt := 76) hx hb dX5_nextStir_9 (by decide) (fun c_1 => ?_) (fun c_1 => absurd (by decide) c_1)
  refine lv_iload_n hx hb dX5_nextStir_76 rfl (lv_at hl 1 rfl) ?_
  refine lv_aload_n hx hb dX5_nextStir_77 rfl (lv_at hl 2 rfl) ?_
  refine va_get (D := (dC, dI)) (ci := 5) (v := .int 0) (C := RX5) (T := TX5) (N := 11) hx hb hts (fun w h => List.mem_cons_of_mem _ (inWX5 w h)) hown hK hP 0 rfl rfl 6 (by decide) (hts _ (List.mem_cons_of_mem _ kw_10)) (fun _ h9 => h9) rfl dX5_nextStir_78 ?_
  refine lv_iconst (v := 1) hx hb dX5_nextStir_81 (by decide) ?_
  refine lv_iadd hx hb dX5_nextStir_82 ?_
  refine lv_topi (fun t_2 et_2 => ?_)
  obtain rfl : t_2 = 1 := et_2.trans (by decide)
  refine va_mmax hx hb (hml.trans hl.1.symm) hown (hts _ (List.mem_cons_of_mem _ kw_37)) (hts _ (List.mem_cons_of_mem _ kw_38)) (hts _ (List.mem_cons_of_mem _ kw_39)) (hts _ (List.mem_cons_of_mem _ kw_40)) (Nat.le_of_ble_eq_true rfl) (Nat.le_of_ble_eq_true rfl) (Nat.zero_le _) (Nat.zero_le _) dX5_nextStir_83 ?_
  refine lv_topi (fun t_3 et_3 => ?_)
  exact W.iret (v := t_3) hx hb hr (fun t ht hW => ⟨⟨t_3, (), rfl, et_3, trivial⟩, hS.F ht⟩) hS.2.2 dX5_nextStir_86

set_option maxHeartbeats 4000000 in
set_option maxRecDepth 100000 in
theorem c_X5_tick (l : Launch) (dC : Nat → ClassId) (dI : Nat → Nat → Nat) (cI cZ cS cC : ClassId) (h0 sz : Nat) (qa : Nat → Nat) (p0 : Int32) : Met l yX5_tick (Cond.code yX5_tick cX5_tick 5 (some .int) :: WW) ({ frames := 2, cells := 0, slots := 0, locals := 60 }) (va_Pc [.ref h0, .int p0] (fun U => U.heap.size = sz ∧ va_P (dC, dI) vwCl [(h0, .inr (5, [.ref (qa 0), .ref (qa 1), .ref (qa 2), .ref (qa 3), .ref (qa 4), .int 0, .int 0, .int 10, .int 100, .int 0, .int 0])), (qa 3, .inr (2, [.ref (qa 6), .int 0]))] U.heap ∧ va_K (dC, dI) vwCl [(cI, .int), (cZ, .boolean), (cS, .object RX3), (cC, .object RX0)] U ∧ va_D (fun _ => True) [(h0, .inr (5, [.ref (qa 0), .ref (qa 1), .ref (qa 2), .ref (qa 3), .ref (qa 4), .int 0, .int 0, .int 10, .int 100, .int 0, .int 0])), (qa 3, .inr (2, [.ref (qa 6), .int 0]))])) (va_Qi (fun (r : Int32) (_ : Unit) => r = sp_tick p0) (fun (_ : Unit) (_ : State) => True) (va_A [(h0, .inr (5, [.ref (qa 0), .ref (qa 1), .ref (qa 2), .ref (qa 3), .ref (qa 4), .int 0, .int 0, .int 10, .int 100, .int 0, .int 0])), (qa 3, .inr (2, [.ref (qa 6), .int 0]))] sz)) 0 0 (va_A [(h0, .inr (5, [.ref (qa 0), .ref (qa 1), .ref (qa 2), .ref (qa 3), .ref (qa 4), .int 0, .int 0, .int 10, .int 100, .int 0, .int 0])), (qa 3, .inr (2, [.ref (qa 6), .int 0]))] sz) := by
  refine Met.ofW (cc := cX5_tick) (maxL := 5) (ret := (some .int)) (by decide) rfl ?_
  intro p e s m args below meth c s₁ B hml hv
  obtain ⟨rfl, hsz, hP, hK, hD0⟩ := hv
  have hx := B.exec
  have hb := B.bytes
  have hr := B.returns
  have hts := atoms_spec (ws := Cond.code yX5_tick cX5_tick 5 (some .int) :: WW) B.pre
  have hown : s.vm.findClass RX5 = some m.cls := findClass_of_methodNamed B.named
  have hlocks := B.notSynchronized
  subst hsz
  have hD := hD0.self (sz := s.heap.size)
  generalize hAe : va_A [(h0, .inr (5, [.ref (qa 0), .ref (qa 1), .ref (qa 2), .ref (qa 3), .ref (qa 4), .int 0, .int 0, .int 10, .int 100, .int 0, .int 0])), (qa 3, .inr (2, [.ref (qa 6), .int 0]))] s.heap.size = A at hD ⊢
  have hA : ∀ q : Nat, s.heap.size ≤ q → A q := fun q h => by rw [← hAe]; exact Or.inr h
  have hS : va_S A s.heap s.heap [] := va_S.rf
  have hP : va_P (dC, dI) vwCl [(h0, .inr (5, [.ref (qa 0), .ref (qa 1), .ref (qa 2), .ref (qa 3), .ref (qa 4), .int 0, .int 0, .int 10, .int 100, .int 0, .int 0])), (qa 3, .inr (2, [.ref (qa 6), .int 0]))] s.heap := hP
  have hl := lv_entry ([.ref h0, .int p0]) (n := 5) (Nat.le_of_ble_eq_true rfl)
  rw [lg_entry_eq]
  generalize (lg_sl ([.ref h0, .int p0]) ++ List.replicate (5 - (lg_sl ([.ref h0, .int p0])).length) Slot.unset).toArray = ls at hl ⊢
  have hl : lv_has ls 5 [(0, .ref h0), (1, .int p0)] := hl
  refine lv_iload_n hx hb dX5_tick_0 rfl (lv_at hl 1 rfl) ?_
  refine lv_if_lt (tgt := 22) hx hb dX5_tick_1 (by decide) (fun c_1 => ?_) (fun c_1 => ?_)
  · refine lv_iconst (v := (-1)) hx hb dX5_tick_22 (by decide) ?_
    exact W.iret (v := (-1)) hx hb hr (fun t ht hW => ⟨⟨(-1), (), rfl, (by unfold sp_tick; have z0 := c_1; (try simp only [Int32.lt_iff_toInt_lt, Int32.le_iff_toInt_le, ← Int32.toInt_inj, L0, L1, L5, L7, L10, L12, L15, L16, L20, L63, L1000, L1023, L2000, L10000, L100000, Lm1] at z0); rw [if_pos (by simp only [Int32.lt_iff_toInt_lt, Int32.le_iff_toInt_le, ← Int32.toInt_inj, L0, L1, L5, L7, L10, L12, L15, L16, L20, L63, L1000, L1023, L2000, L10000, L100000, Lm1]; omega)]), trivial⟩, hS.F ht⟩) hS.2.2 dX5_tick_23
  · refine lv_iload_n hx hb dX5_tick_4 rfl (lv_at hl 1 rfl) ?_
    refine lv_sipush (v := 2000) hx hb dX5_tick_5 (by decide) ?_
    refine lv_icmp_gt (tgt := 22) hx hb dX5_tick_8 (by decide) (fun c_2 => ?_) (fun c_2 => ?_)
    · refine lv_iconst (v := (-1)) hx hb dX5_tick_22 (by decide) ?_
      exact W.iret (v := (-1)) hx hb hr (fun t ht hW => ⟨⟨(-1), (), rfl, (by unfold sp_tick; have z0 := c_1; have z1 := c_2; (try simp only [Int32.lt_iff_toInt_lt, Int32.le_iff_toInt_le, ← Int32.toInt_inj, L0, L1, L5, L7, L10, L12, L15, L16, L20, L63, L1000, L1023, L2000, L10000, L100000, Lm1] at z0 z1); rw [if_pos (by simp only [Int32.lt_iff_toInt_lt, Int32.le_iff_toInt_le, ← Int32.toInt_inj, L0, L1, L5, L7, L10, L12, L15, L16, L20, L63, L1000, L1023, L2000, L10000, L100000, Lm1]; omega)]), trivial⟩, hS.F ht⟩) hS.2.2 dX5_tick_23
    · refine lv_iload_n hx hb dX5_tick_11 rfl (lv_at hl 1 rfl) ?_
      refine lv_ldc (v := 100000) hx hb hown (hts _ (List.mem_cons_of_mem _ kw_41)) dX5_tick_12 ?_
      refine lv_aload_n hx hb dX5_tick_14 rfl (lv_at hl 0 rfl) ?_
      refine va_get (D := (dC, dI)) (ci := 5) (v := .int 0) (C := RX5) (T := TX5) (N := 11) hx hb hts (fun w h => List.mem_cons_of_mem _ (inWX5 w h)) hown hK hP 0 rfl rfl 6 (by decide) (hts _ (List.mem_cons_of_mem _ kw_10)) (fun _ h9 => h9) rfl dX5_tick_15 ?_
      refine lv_isub hx hb dX5_tick_18 ?_
      refine lv_topi (fun t_3 et_3 => ?_)
      obtain rfl : t_3 = 100000 := et_3.trans (by decide)
      refine lv_icmp_le (tgt := 24) hx hb dX5_tick_19 (by decide) (fun c_4 => ?_) (fun c_4 => False.elim (by have z0 := c_1; have z1 := c_2; have z2 := c_4; simp only [Int32.lt_iff_toInt_lt, Int32.le_iff_toInt_le, ← Int32.toInt_inj, L0, L1, L5, L16, L10, L12, L15, L20, L63, L1000, L1023, L2000, L10000, L100000, Lm1] at z0 z1 z2; omega))
      refine lv_aload_n hx hb dX5_tick_24 rfl (lv_at hl 0 rfl) ?_
      refine va_get (D := (dC, dI)) (ci := 5) (v := .int 0) (C := RX5) (T := TX5) (N := 11) hx hb hts (fun w h => List.mem_cons_of_mem _ (inWX5 w h)) hown hK hP 0 rfl rfl 6 (by decide) (hts _ (List.mem_cons_of_mem _ kw_10)) (fun _ h9 => h9) rfl dX5_tick_25 ?_
      refine lv_iload_n hx hb dX5_tick_28 rfl (lv_at hl 1 rfl) ?_
      refine lv_iadd hx hb dX5_tick_29 ?_
      refine lv_topi (fun t_5 et_5 => ?_)
      obtain rfl : p0 = t_5 := (et_5.trans (Int32.zero_add p0)).symm
      refine lv_istore_n (lv' := [(2, .int p0), (0, .ref h0), (1, .int p0)]) hx hb dX5_tick_30 rfl hl (by decide) rfl (fun ls hl => ?_)
      refine lv_iconst (v := 0) hx hb dX5_tick_31 (by decide) ?_
      refine lv_istore_n (lv' := [(3, .int 0), (2, .int p0), (0, .ref h0), (1, .int p0)]) hx hb dX5_tick_32 rfl hl (by decide) rfl (fun ls hl => ?_)
      refine lv_iload_n hx hb dX5_tick_33 rfl (lv_at hl 0 rfl) ?_
      refine lv_iload_n hx hb dX5_tick_34 rfl (lv_at hl 3 rfl) ?_
      refine lv_icmp_ge (tgt := 138) hx hb dX5_tick_35 (by decide) (fun c_6 => ?_) (fun c_6 => ?_)
      · refine lv_aload_n hx hb dX5_tick_138 rfl (lv_at hl 2 rfl) ?_
        refine va_get (D := (dC, dI)) (ci := 5) (v := .int 0) (C := RX5) (T := TX5) (N := 11) hx hb hts (fun w h => List.mem_cons_of_mem _ (inWX5 w h)) hown hK hP 0 rfl rfl 6 (by decide) (hts _ (List.mem_cons_of_mem _ kw_10)) (fun _ h9 => h9) rfl dX5_tick_139 ?_
        exact W.iret (v := 0) hx hb hr (fun t ht hW => ⟨⟨0, (), rfl, (by unfold sp_tick; have z0 := c_1; have z1 := c_2; have z2 := c_6; (try simp only [Int32.lt_iff_toInt_lt, Int32.le_iff_toInt_le, ← Int32.toInt_inj, L0, L1, L5, L7, L10, L12, L15, L16, L20, L63, L1000, L1023, L2000, L10000, L100000, Lm1] at z0 z1 z2); rw [if_neg (by simp only [Int32.lt_iff_toInt_lt, Int32.le_iff_toInt_le, ← Int32.toInt_inj, L0, L1, L5, L7, L10, L12, L15, L16, L20, L63, L1000, L1023, L2000, L10000, L100000, Lm1]; omega)]; apply Int32.toInt_inj.mp; simp only [L0, L1, L5, L7, L10, L12, L15, L16, L20, L63, L1000, L1023, L2000, L10000, L100000, Lm1]; omega), trivial⟩, hS.F ht⟩) hS.2.2 dX5_tick_142
      · refine lv_aload_n hx hb dX5_tick_38 rfl (lv_at hl 2 rfl) ?_
        refine va_get (D := (dC, dI)) (ci := 5) (v := .int 0) (C := RX5) (T := TX5) (N := 11) hx hb hts (fun w h => List.mem_cons_of_mem _ (inWX5 w h)) hown hK hP 0 rfl rfl 6 (by decide) (hts _ (List.mem_cons_of_mem _ kw_10)) (fun _ h9 => h9) rfl dX5_tick_39 ?_
        refine lv_iload_n hx hb dX5_tick_42 rfl (lv_at hl 1 rfl) ?_
        refine lv_icmp_ge (tgt := 138) hx hb dX5_tick_43 (by decide) (fun c_7 => False.elim (by have z0 := c_1; have z1 := c_2; have z2 := c_6; have z3 := c_7; simp only [Int32.lt_iff_toInt_lt, Int32.le_iff_toInt_le, ← Int32.toInt_inj, L0, L1, L5, L16, L10, L12, L15, L20, L63, L1000, L1023, L2000, L10000, L100000, Lm1] at z0 z1 z2 z3; omega)) (fun c_7 => ?_)
        refine lv_aload_n hx hb dX5_tick_46 rfl (lv_at hl 2 rfl) ?_
        refine lv_aload_n hx hb dX5_tick_47 rfl (lv_at hl 2 rfl) ?_
        refine lv_iload_n hx hb dX5_tick_48 rfl (lv_at hl 1 rfl) ?_
        have hPc := hP.sub (ws' := [(h0, .inr (5, [.ref (qa 0), .ref (qa 1), .ref (qa 2), .ref (qa 3), .ref (qa 4), .int 0, .int 0, .int 10, .int 100, .int 0, .int 0]))]) [0] rfl
        have hDc := hD.sub (ws' := [(h0, .inr (5, [.ref (qa 0), .ref (qa 1), .ref (qa 2), .ref (qa 3), .ref (qa 4), .int 0, .int 0, .int 10, .int 100, .int 0, .int 0]))]) [0] (by decide) rfl
        have hFc : ∀ q, va_A ([] : va_W) s.heap.size q → A q := va_free (wc := []) (ws := []) kt_D0 hS hA [] rfl
        refine va_calli (va_runV (As := [.int p0]) (rest := [.ref h0]) ⟨hx, hb, hml, hown, hts⟩ (c_X5_nextStir l dC dI cI cZ cS cC h0 s.heap.size qa p0) (cwV 1 hts (gV (fun w h => List.mem_cons_of_mem _ h) kw_43 kw_44 kw_45 kw_9 kw_42) rfl rfl rfl (by decide +kernel) ⟨Nat.le_of_ble_eq_true rfl, Nat.le_of_ble_eq_true rfl⟩) ⟨fun a U g mk q => by obtain ⟨q0, q1, qP, qK, qD⟩ := q; exact ⟨q0, q1, qP, va_K.moved (u := U) (U := U.calling g mk a) (Vm.Alike.refl U.vm) qK, qD⟩, va_recv hK hP (ci := 5) (q0 := 0) rfl rfl, fun U hU hW => ⟨rfl, by rw [hU], by rw [hU]; exact hPc, va_K.moved hW.alike hK, hDc.weaken (fun _ _ _ _ => trivial)⟩⟩ rfl rfl hl.1 rfl (lv_room (Nat.le_of_ble_eq_true rfl)) dX5_tick_49 ⟨Nat.le_of_ble_eq_true rfl, Nat.le_of_ble_eq_true rfl⟩) hS (fun q _ h => hFc q h) hFc (fun r_8 u_8 t H1 locs ht hvm hw_8 hB hz1 hk1 hS => ?_)
        obtain ⟨hP, hD⟩ := va_join (wc := []) (wr := [(h0, .inr (5, [.ref (qa 0), .ref (qa 1), .ref (qa 2), .ref (qa 3), .ref (qa 4), .int 0, .int 0, .int 10, .int 100, .int 0, .int 0])), (qa 3, .inr (2, [.ref (qa 6), .int 0]))]) (w1 := []) hP hD [] [0, 1] rfl rfl (by decide) (by decide) hk1 hFc kt_P0 kt_D0
        generalize H1 = H at hP hS ⊢
        have hP : va_P (dC, dI) vwCl [(h0, .inr (5, [.ref (qa 0), .ref (qa 1), .ref (qa 2), .ref (qa 3), .ref (qa 4), .int 0, .int 0, .int 10, .int 100, .int 0, .int 0])), (qa 3, .inr (2, [.ref (qa 6), .int 0]))] H := hP
        have hD : va_D A [(h0, .inr (5, [.ref (qa 0), .ref (qa 1), .ref (qa 2), .ref (qa 3), .ref (qa 4), .int 0, .int 0, .int 10, .int 100, .int 0, .int 0])), (qa 3, .inr (2, [.ref (qa 6), .int 0]))] := hD
        obtain rfl : p0 = r_8 := (hw_8.trans (if_neg (by have z0 := c_1; have z1 := c_2; have z2 := c_6; simp only [Int32.lt_iff_toInt_lt, Int32.le_iff_toInt_le, L0, L1, L5, L7, L10, L12, L15, L16, L20, L63, L1000, L1023, L2000, L10000, L100000, Lm1] at z0 z1 z2 ⊢; omega))).symm
        refine va_put (D := (dC, dI)) (ci := 5) (v := .int p0) (ty := .int) (C := RX5) (T := TX5) (N := 11) hx hb hts (fun w h => List.mem_cons_of_mem _ (inWX5 w h)) tyX5 tyX5_ok nmX5 hown hK hP hD hS 0 rfl rfl 6 (by decide) (hts _ (List.mem_cons_of_mem _ kw_10)) (fun _ h9 => h9) rfl (by decide +kernel) rfl rfl (Nat.le_of_ble_eq_true rfl) dX5_tick_52 (fun H locs hP hD hS => ?_)
        have hP : va_P (dC, dI) vwCl [(h0, .inr (5, [.ref (qa 0), .ref (qa 1), .ref (qa 2), .ref (qa 3), .ref (qa 4), .int 0, .int p0, .int 10, .int 100, .int 0, .int 0])), (qa 3, .inr (2, [.ref (qa 6), .int 0]))] H := hP
        have hD : va_D A [(h0, .inr (5, [.ref (qa 0), .ref (qa 1), .ref (qa 2), .ref (qa 3), .ref (qa 4), .int 0, .int p0, .int 10, .int 100, .int 0, .int 0])), (qa 3, .inr (2, [.ref (qa 6), .int 0]))] := hD
        refine lv_iconst (v := 0) hx hb dX5_tick_55 (by decide) ?_
        refine lv_istore (lv' := [(4, .int 0), (3, .int 0), (2, .int p0), (0, .ref h0), (1, .int p0)]) hx hb dX5_tick_56 hl (by decide) rfl (fun ls hl => ?_)
        refine lv_iload hx hb dX5_tick_58 (lv_at hl 0 rfl) ?_
        refine lv_aload_n hx hb dX5_tick_60 rfl (lv_at hl 3 rfl) ?_
        refine va_get (D := (dC, dI)) (ci := 5) (v := .int 0) (C := RX5) (T := TX5) (N := 11) hx hb hts (fun w h => List.mem_cons_of_mem _ (inWX5 w h)) hown hK hP 0 rfl rfl 5 (by decide) (hts _ (List.mem_cons_of_mem _ kw_0)) (fun _ h9 => h9) rfl dX5_tick_61 ?_
        refine lv_icmp_ge (tgt := 91) hx hb dX5_tick_64 (by decide) (fun c_9 => ?_) (fun c_9 => absurd (by decide) c_9)
        refine lv_aload_n hx hb dX5_tick_91 rfl (lv_at hl 3 rfl) ?_
        refine va_get (D := (dC, dI)) (ci := 5) (v := .ref (qa 3)) (C := RX5) (T := TX5) (N := 11) hx hb hts (fun w h => List.mem_cons_of_mem _ (inWX5 w h)) hown hK hP 0 rfl rfl 3 (by decide) (hts _ (List.mem_cons_of_mem _ kw_29)) (fun _ h9 => h9) rfl dX5_tick_92 ?_
        refine lv_bipush (v := 16) hx hb dX5_tick_95 (by decide) ?_
        have hPc := hP.sub (ws' := [(qa 3, .inr (2, [.ref (qa 6), .int 0]))]) [1] rfl
        have hDc := hD.sub (ws' := [(qa 3, .inr (2, [.ref (qa 6), .int 0]))]) [1] (by decide) rfl
        have hFc : ∀ q, va_A ([] : va_W) H.size q → A q := va_free (wc := []) (ws := []) kt_D0 hS hA [] rfl
        refine va_calli (va_runV (As := [.int 16]) (rest := []) ⟨hx, hb, hml, hown, hts⟩ (c_X2_isDown l dC dI cI cZ cS cC (qa 3) H.size qa (qa 6) 16) (cwV 1 hts (gV (fun w h => List.mem_cons_of_mem _ h) kw_32 kw_33 kw_34 kw_35 kw_31) rfl rfl rfl (by decide +kernel) ⟨Nat.le_of_ble_eq_true rfl, Nat.le_of_ble_eq_true rfl⟩) ⟨fun a U g mk q => by obtain ⟨q0, q1, qP, qK, qD⟩ := q; exact ⟨q0, q1, qP, va_K.moved (u := U) (U := U.calling g mk a) (Vm.Alike.refl U.vm) qK, qD⟩, va_recv hK hP (ci := 2) (q0 := 1) rfl rfl, fun U hU hW => ⟨rfl, by rw [hU], by rw [hU]; exact hPc, va_K.moved hW.alike hK, hDc.weaken (fun _ _ _ _ => trivial)⟩⟩ rfl rfl hl.1 rfl (lv_room (Nat.le_of_ble_eq_true rfl)) dX5_tick_97 ⟨Nat.le_of_ble_eq_true rfl, Nat.le_of_ble_eq_true rfl⟩) hS (fun q _ h => hFc q h) hFc (fun r_10 u_10 t H1 locs ht hvm hw_10 hB hz1 hk1 hS => ?_)
        obtain ⟨hP, hD⟩ := va_join (wc := []) (wr := [(h0, .inr (5, [.ref (qa 0), .ref (qa 1), .ref (qa 2), .ref (qa 3), .ref (qa 4), .int 0, .int p0, .int 10, .int 100, .int 0, .int 0])), (qa 3, .inr (2, [.ref (qa 6), .int 0]))]) (w1 := []) hP hD [] [0, 1] rfl rfl (by decide) (by decide) hk1 hFc kt_P0 kt_D0
        generalize H1 = H at hP hS ⊢
        have hP : va_P (dC, dI) vwCl [(h0, .inr (5, [.ref (qa 0), .ref (qa 1), .ref (qa 2), .ref (qa 3), .ref (qa 4), .int 0, .int p0, .int 10, .int 100, .int 0, .int 0])), (qa 3, .inr (2, [.ref (qa 6), .int 0]))] H := hP
        have hD : va_D A [(h0, .inr (5, [.ref (qa 0), .ref (qa 1), .ref (qa 2), .ref (qa 3), .ref (qa 4), .int 0, .int p0, .int 10, .int 100, .int 0, .int 0])), (qa 3, .inr (2, [.ref (qa 6), .int 0]))] := hD
        subst hw_10
        refine lv_if_ne (tgt := 132) hx hb dX5_tick_100 (by decide) (fun c_11 => absurd (by decide) c_11) (fun c_11 => ?_)
        refine lv_iconst (v := 0) hx hb dX5_tick_103 (by decide) ?_
        refine lv_istore (lv' := [(4, .int 0), (3, .int 0), (2, .int p0), (0, .ref h0), (1, .int p0)]) hx hb dX5_tick_104 hl (by decide) rfl (fun ls hl => ?_)
        refine lv_iload hx hb dX5_tick_106 (lv_at hl 0 rfl) ?_
        refine lv_aload_n hx hb dX5_tick_108 rfl (lv_at hl 3 rfl) ?_
        refine va_get (D := (dC, dI)) (ci := 5) (v := .int 0) (C := RX5) (T := TX5) (N := 11) hx hb hts (fun w h => List.mem_cons_of_mem _ (inWX5 w h)) hown hK hP 0 rfl rfl 5 (by decide) (hts _ (List.mem_cons_of_mem _ kw_0)) (fun _ h9 => h9) rfl dX5_tick_109 ?_
        refine lv_icmp_ge (tgt := 132) hx hb dX5_tick_112 (by decide) (fun c_12 => ?_) (fun c_12 => absurd (by decide) c_12)
        refine lv_iinc (v := 1) (lv' := [(3, .int 1), (4, .int 0), (2, .int p0), (0, .ref h0), (1, .int p0)]) hx hb dX5_tick_132 hl (k := 1) rfl (by decide) (by decide) rfl (fun ls hl => ?_)
        refine lv_goto (tgt := 33) hx hb dX5_tick_135 (by decide) ?_
        refine lv_iload_n hx hb dX5_tick_33 rfl (lv_at hl 0 rfl) ?_
        refine lv_iload_n hx hb dX5_tick_34 rfl (lv_at hl 4 rfl) ?_
        refine lv_icmp_ge (tgt := 138) hx hb dX5_tick_35 (by decide) (fun c_13 => ?_) (fun c_13 => ?_)
        · refine lv_aload_n hx hb dX5_tick_138 rfl (lv_at hl 3 rfl) ?_
          refine va_get (D := (dC, dI)) (ci := 5) (v := .int p0) (C := RX5) (T := TX5) (N := 11) hx hb hts (fun w h => List.mem_cons_of_mem _ (inWX5 w h)) hown hK hP 0 rfl rfl 6 (by decide) (hts _ (List.mem_cons_of_mem _ kw_10)) (fun _ h9 => h9) rfl dX5_tick_139 ?_
          exact W.iret (v := p0) hx hb hr (fun t ht hW => ⟨⟨p0, (), rfl, (by unfold sp_tick; have z0 := c_1; have z1 := c_2; have z2 := c_6; have z3 := c_13; (try simp only [Int32.lt_iff_toInt_lt, Int32.le_iff_toInt_le, ← Int32.toInt_inj, L0, L1, L5, L7, L10, L12, L15, L16, L20, L63, L1000, L1023, L2000, L10000, L100000, Lm1] at z0 z1 z2 z3); rw [if_neg (by simp only [Int32.lt_iff_toInt_lt, Int32.le_iff_toInt_le, ← Int32.toInt_inj, L0, L1, L5, L7, L10, L12, L15, L16, L20, L63, L1000, L1023, L2000, L10000, L100000, Lm1]; omega)]), trivial⟩, hS.F ht⟩) hS.2.2 dX5_tick_142
        · refine lv_aload_n hx hb dX5_tick_38 rfl (lv_at hl 3 rfl) ?_
          refine va_get (D := (dC, dI)) (ci := 5) (v := .int p0) (C := RX5) (T := TX5) (N := 11) hx hb hts (fun w h => List.mem_cons_of_mem _ (inWX5 w h)) hown hK hP 0 rfl rfl 6 (by decide) (hts _ (List.mem_cons_of_mem _ kw_10)) (fun _ h9 => h9) rfl dX5_tick_39 ?_
          refine lv_iload_n hx hb dX5_tick_42 rfl (lv_at hl 2 rfl) ?_
          refine lv_icmp_ge (tgt := 138) hx hb dX5_tick_43 (by decide) (fun c_14 => ?_) (fun c_14 => False.elim (by have z0 := c_1; have z1 := c_2; have z2 := c_6; have z3 := c_13; have z4 := c_14; simp only [Int32.lt_iff_toInt_lt, Int32.le_iff_toInt_le, ← Int32.toInt_inj, L0, L1, L5, L16, L10, L12, L15, L20, L63, L1000, L1023, L2000, L10000, L100000, Lm1] at z0 z1 z2 z3 z4; omega))
          refine lv_aload_n hx hb dX5_tick_138 rfl (lv_at hl 3 rfl) ?_
          refine va_get (D := (dC, dI)) (ci := 5) (v := .int p0) (C := RX5) (T := TX5) (N := 11) hx hb hts (fun w h => List.mem_cons_of_mem _ (inWX5 w h)) hown hK hP 0 rfl rfl 6 (by decide) (hts _ (List.mem_cons_of_mem _ kw_10)) (fun _ h9 => h9) rfl dX5_tick_139 ?_
          exact W.iret (v := p0) hx hb hr (fun t ht hW => ⟨⟨p0, (), rfl, (by unfold sp_tick; have z0 := c_1; have z1 := c_2; have z2 := c_6; have z3 := c_13; (try simp only [Int32.lt_iff_toInt_lt, Int32.le_iff_toInt_le, ← Int32.toInt_inj, L0, L1, L5, L7, L10, L12, L15, L16, L20, L63, L1000, L1023, L2000, L10000, L100000, Lm1] at z0 z1 z2 z3); rw [if_neg (by simp only [Int32.lt_iff_toInt_lt, Int32.le_iff_toInt_le, ← Int32.toInt_inj, L0, L1, L5, L7, L10, L12, L15, L16, L20, L63, L1000, L1023, L2000, L10000, L100000, Lm1]; omega)]), trivial⟩, hS.F ht⟩) hS.2.2 dX5_tick_142

set_option maxHeartbeats 4000000 in
set_option maxRecDepth 100000 in
theorem c_X3_open (l : Launch) (dC : Nat → ClassId) (dI : Nat → Nat → Nat) (cI cZ cS cC : ClassId) (h0 sz : Nat) (qa : Nat → Nat) (p0 p1 p2 p3 p4 : Int32) : Met l yX3_open (Cond.code yX3_open cX3_open 6 none :: WW) ({ frames := 0, cells := 0, slots := 0, locals := 0 }) (va_Pc [.ref h0, .int p0, .int p1, .int p2, .int p3, .int p4] (fun U => U.heap.size = sz ∧ va_P (dC, dI) vwCl [(h0, .inr (3, [.int 0, .int 0, .int 0, .int 0, .int 0, .int 0, .int 0, .int 0, .int 0, .int 0]))] U.heap ∧ va_K (dC, dI) vwCl [(cI, .int), (cZ, .boolean), (cS, .object RX3), (cC, .object RX0)] U ∧ va_D (fun _ => True) [(h0, .inr (3, [.int 0, .int 0, .int 0, .int 0, .int 0, .int 0, .int 0, .int 0, .int 0, .int 0]))])) (va_Qv (fun (_ : Unit) => True) (fun (_ : Unit) (_ : State) => True) (va_A [(h0, .inr (3, [.int 0, .int 0, .int 0, .int 0, .int 0, .int 0, .int 0, .int 0, .int 0, .int 0]))] sz)) 0 0 (va_A [(h0, .inr (3, [.int 0, .int 0, .int 0, .int 0, .int 0, .int 0, .int 0, .int 0, .int 0, .int 0]))] sz) := by
  refine Met.ofW (cc := cX3_open) (maxL := 6) (ret := none) (by decide) rfl ?_
  intro p e s m args below meth c s₁ B hml hv
  obtain ⟨rfl, hsz, hP, hK, hD0⟩ := hv
  have hx := B.exec
  have hb := B.bytes
  have hr := B.returns
  have hts := atoms_spec (ws := Cond.code yX3_open cX3_open 6 none :: WW) B.pre
  have hown : s.vm.findClass RX3 = some m.cls := findClass_of_methodNamed B.named
  have hlocks := B.notSynchronized
  subst hsz
  have hD := hD0.self (sz := s.heap.size)
  generalize hAe : va_A [(h0, .inr (3, [.int 0, .int 0, .int 0, .int 0, .int 0, .int 0, .int 0, .int 0, .int 0, .int 0]))] s.heap.size = A at hD ⊢
  have hA : ∀ q : Nat, s.heap.size ≤ q → A q := fun q h => by rw [← hAe]; exact Or.inr h
  have hS : va_S A s.heap s.heap [] := va_S.rf
  have hP : va_P (dC, dI) vwCl [(h0, .inr (3, [.int 0, .int 0, .int 0, .int 0, .int 0, .int 0, .int 0, .int 0, .int 0, .int 0]))] s.heap := hP
  have hl := lv_entry ([.ref h0, .int p0, .int p1, .int p2, .int p3, .int p4]) (n := 6) (Nat.le_of_ble_eq_true rfl)
  rw [lg_entry_eq]
  generalize (lg_sl ([.ref h0, .int p0, .int p1, .int p2, .int p3, .int p4]) ++ List.replicate (6 - (lg_sl ([.ref h0, .int p0, .int p1, .int p2, .int p3, .int p4])).length) Slot.unset).toArray = ls at hl ⊢
  have hl : lv_has ls 6 [(0, .ref h0), (1, .int p0), (2, .int p1), (3, .int p2), (4, .int p3), (5, .int p4)] := hl
  refine lv_aload_n hx hb dX3_open_0 rfl (lv_at hl 0 rfl) ?_
  refine lv_iload_n hx hb dX3_open_1 rfl (lv_at hl 1 rfl) ?_
  refine va_put (D := (dC, dI)) (ci := 3) (v := .int p0) (ty := .int) (C := RX3) (T := TX3) (N := 10) hx hb hts (fun w h => List.mem_cons_of_mem _ (inWX3 w h)) tyX3 tyX3_ok nmX3 hown hK hP hD hS 0 rfl rfl 0 (by decide) (hts _ (List.mem_cons_of_mem _ kw_46)) (fun _ h9 => h9) rfl (by decide +kernel) rfl rfl (Nat.le_of_ble_eq_true rfl) dX3_open_2 (fun H locs hP hD hS => ?_)
  have hP : va_P (dC, dI) vwCl [(h0, .inr (3, [.int p0, .int 0, .int 0, .int 0, .int 0, .int 0, .int 0, .int 0, .int 0, .int 0]))] H := hP
  have hD : va_D A [(h0, .inr (3, [.int p0, .int 0, .int 0, .int 0, .int 0, .int 0, .int 0, .int 0, .int 0, .int 0]))] := hD
  refine lv_aload_n hx hb dX3_open_5 rfl (lv_at hl 0 rfl) ?_
  refine lv_iload_n hx hb dX3_open_6 rfl (lv_at hl 2 rfl) ?_
  refine va_put (D := (dC, dI)) (ci := 3) (v := .int p1) (ty := .int) (C := RX3) (T := TX3) (N := 10) hx hb hts (fun w h => List.mem_cons_of_mem _ (inWX3 w h)) tyX3 tyX3_ok nmX3 hown hK hP hD hS 0 rfl rfl 1 (by decide) (hts _ (List.mem_cons_of_mem _ kw_47)) (fun _ h9 => h9) rfl (by decide +kernel) rfl rfl (Nat.le_of_ble_eq_true rfl) dX3_open_7 (fun H locs hP hD hS => ?_)
  have hP : va_P (dC, dI) vwCl [(h0, .inr (3, [.int p0, .int p1, .int 0, .int 0, .int 0, .int 0, .int 0, .int 0, .int 0, .int 0]))] H := hP
  have hD : va_D A [(h0, .inr (3, [.int p0, .int p1, .int 0, .int 0, .int 0, .int 0, .int 0, .int 0, .int 0, .int 0]))] := hD
  refine lv_aload_n hx hb dX3_open_10 rfl (lv_at hl 0 rfl) ?_
  refine lv_iload_n hx hb dX3_open_11 rfl (lv_at hl 3 rfl) ?_
  refine va_put (D := (dC, dI)) (ci := 3) (v := .int p2) (ty := .int) (C := RX3) (T := TX3) (N := 10) hx hb hts (fun w h => List.mem_cons_of_mem _ (inWX3 w h)) tyX3 tyX3_ok nmX3 hown hK hP hD hS 0 rfl rfl 2 (by decide) (hts _ (List.mem_cons_of_mem _ kw_48)) (fun _ h9 => h9) rfl (by decide +kernel) rfl rfl (Nat.le_of_ble_eq_true rfl) dX3_open_12 (fun H locs hP hD hS => ?_)
  have hP : va_P (dC, dI) vwCl [(h0, .inr (3, [.int p0, .int p1, .int p2, .int 0, .int 0, .int 0, .int 0, .int 0, .int 0, .int 0]))] H := hP
  have hD : va_D A [(h0, .inr (3, [.int p0, .int p1, .int p2, .int 0, .int 0, .int 0, .int 0, .int 0, .int 0, .int 0]))] := hD
  refine lv_aload_n hx hb dX3_open_15 rfl (lv_at hl 0 rfl) ?_
  refine lv_iload hx hb dX3_open_16 (lv_at hl 4 rfl) ?_
  refine va_put (D := (dC, dI)) (ci := 3) (v := .int p3) (ty := .int) (C := RX3) (T := TX3) (N := 10) hx hb hts (fun w h => List.mem_cons_of_mem _ (inWX3 w h)) tyX3 tyX3_ok nmX3 hown hK hP hD hS 0 rfl rfl 3 (by decide) (hts _ (List.mem_cons_of_mem _ kw_49)) (fun _ h9 => h9) rfl (by decide +kernel) rfl rfl (Nat.le_of_ble_eq_true rfl) dX3_open_18 (fun H locs hP hD hS => ?_)
  have hP : va_P (dC, dI) vwCl [(h0, .inr (3, [.int p0, .int p1, .int p2, .int p3, .int 0, .int 0, .int 0, .int 0, .int 0, .int 0]))] H := hP
  have hD : va_D A [(h0, .inr (3, [.int p0, .int p1, .int p2, .int p3, .int 0, .int 0, .int 0, .int 0, .int 0, .int 0]))] := hD
  refine lv_aload_n hx hb dX3_open_21 rfl (lv_at hl 0 rfl) ?_
  refine lv_iload hx hb dX3_open_22 (lv_at hl 5 rfl) ?_
  refine va_put (D := (dC, dI)) (ci := 3) (v := .int p4) (ty := .int) (C := RX3) (T := TX3) (N := 10) hx hb hts (fun w h => List.mem_cons_of_mem _ (inWX3 w h)) tyX3 tyX3_ok nmX3 hown hK hP hD hS 0 rfl rfl 5 (by decide) (hts _ (List.mem_cons_of_mem _ kw_50)) (fun _ h9 => h9) rfl (by decide +kernel) rfl rfl (Nat.le_of_ble_eq_true rfl) dX3_open_24 (fun H locs hP hD hS => ?_)
  have hP : va_P (dC, dI) vwCl [(h0, .inr (3, [.int p0, .int p1, .int p2, .int p3, .int 0, .int p4, .int 0, .int 0, .int 0, .int 0]))] H := hP
  have hD : va_D A [(h0, .inr (3, [.int p0, .int p1, .int p2, .int p3, .int 0, .int p4, .int 0, .int 0, .int 0, .int 0]))] := hD
  refine lv_aload_n hx hb dX3_open_27 rfl (lv_at hl 0 rfl) ?_
  refine lv_iload_n hx hb dX3_open_28 rfl (lv_at hl 2 rfl) ?_
  refine va_put (D := (dC, dI)) (ci := 3) (v := .int p1) (ty := .int) (C := RX3) (T := TX3) (N := 10) hx hb hts (fun w h => List.mem_cons_of_mem _ (inWX3 w h)) tyX3 tyX3_ok nmX3 hown hK hP hD hS 0 rfl rfl 7 (by decide) (hts _ (List.mem_cons_of_mem _ kw_51)) (fun _ h9 => h9) rfl (by decide +kernel) rfl rfl (Nat.le_of_ble_eq_true rfl) dX3_open_29 (fun H locs hP hD hS => ?_)
  have hP : va_P (dC, dI) vwCl [(h0, .inr (3, [.int p0, .int p1, .int p2, .int p3, .int 0, .int p4, .int 0, .int p1, .int 0, .int 0]))] H := hP
  have hD : va_D A [(h0, .inr (3, [.int p0, .int p1, .int p2, .int p3, .int 0, .int p4, .int 0, .int p1, .int 0, .int 0]))] := hD
  refine lv_aload_n hx hb dX3_open_32 rfl (lv_at hl 0 rfl) ?_
  refine lv_iload_n hx hb dX3_open_33 rfl (lv_at hl 3 rfl) ?_
  refine va_put (D := (dC, dI)) (ci := 3) (v := .int p2) (ty := .int) (C := RX3) (T := TX3) (N := 10) hx hb hts (fun w h => List.mem_cons_of_mem _ (inWX3 w h)) tyX3 tyX3_ok nmX3 hown hK hP hD hS 0 rfl rfl 8 (by decide) (hts _ (List.mem_cons_of_mem _ kw_52)) (fun _ h9 => h9) rfl (by decide +kernel) rfl rfl (Nat.le_of_ble_eq_true rfl) dX3_open_34 (fun H locs hP hD hS => ?_)
  have hP : va_P (dC, dI) vwCl [(h0, .inr (3, [.int p0, .int p1, .int p2, .int p3, .int 0, .int p4, .int 0, .int p1, .int p2, .int 0]))] H := hP
  have hD : va_D A [(h0, .inr (3, [.int p0, .int p1, .int p2, .int p3, .int 0, .int p4, .int 0, .int p1, .int p2, .int 0]))] := hD
  exact W.vret hx hb hr (fun t ht hW => ⟨⟨(), rfl, trivial, trivial⟩, hS.F ht⟩) hS.2.2 dX3_open_37

set_option maxHeartbeats 4000000 in
set_option maxRecDepth 100000 in
theorem c_X5_secret (l : Launch) (dC : Nat → ClassId) (dI : Nat → Nat → Nat) (cI cZ cS cC : ClassId) (h0 sz : Nat) (qa : Nat → Nat) (fq : Nat → Option Nat) (p0 p1 p2 p3 : Int32) : Met l yX5_secret (Cond.code yX5_secret cX5_secret 6 (some .int) :: WW) ({ frames := 1, cells := 0, slots := 0, locals := 30 }) (va_Pc [.ref h0, .int p0, .int p1, .int p2, .int p3] (fun U => U.heap.size = sz ∧ va_P (dC, dI) vwCl [(h0, .inr (5, [.ref (qa 0), .ref (qa 1), .ref (qa 2), .ref (qa 3), .ref (qa 4), .int 0, .int 0, .int 10, .int 100, .int 0, .int 0])), (qa 0, .inl (cS, 12, .inr (.inr (.inr (.inr fq))))), (qa 5, .inr (3, [.int 0, .int 0, .int 0, .int 0, .int 0, .int 0, .int 0, .int 0, .int 0, .int 0]))] U.heap ∧ va_K (dC, dI) vwCl [(cI, .int), (cZ, .boolean), (cS, .object RX3), (cC, .object RX0)] U ∧ va_D (fun _ => True) [(h0, .inr (5, [.ref (qa 0), .ref (qa 1), .ref (qa 2), .ref (qa 3), .ref (qa 4), .int 0, .int 0, .int 10, .int 100, .int 0, .int 0])), (qa 0, .inl (cS, 12, .inr (.inr (.inr (.inr fq))))), (qa 5, .inr (3, [.int 0, .int 0, .int 0, .int 0, .int 0, .int 0, .int 0, .int 0, .int 0, .int 0]))] ∧ (fun (_ : State) => fq (0 : Int32).toNatClampNeg = some (qa 5)) U)) (va_Qi (fun (r : Int32) (_ : Unit) => r = sp_secret p0 p1 p2 p3) (fun (_ : Unit) (_ : State) => True) (va_A [(h0, .inr (5, [.ref (qa 0), .ref (qa 1), .ref (qa 2), .ref (qa 3), .ref (qa 4), .int 0, .int 0, .int 10, .int 100, .int 0, .int 0])), (qa 0, .inl (cS, 12, .inr (.inr (.inr (.inr fq))))), (qa 5, .inr (3, [.int 0, .int 0, .int 0, .int 0, .int 0, .int 0, .int 0, .int 0, .int 0, .int 0]))] sz)) 0 0 (va_A [(h0, .inr (5, [.ref (qa 0), .ref (qa 1), .ref (qa 2), .ref (qa 3), .ref (qa 4), .int 0, .int 0, .int 10, .int 100, .int 0, .int 0])), (qa 0, .inl (cS, 12, .inr (.inr (.inr (.inr fq))))), (qa 5, .inr (3, [.int 0, .int 0, .int 0, .int 0, .int 0, .int 0, .int 0, .int 0, .int 0, .int 0]))] sz) := by
  refine Met.ofW (cc := cX5_secret) (maxL := 6) (ret := (some .int)) (by decide) rfl ?_
  intro p e s m args below meth c s₁ B hml hv
  obtain ⟨rfl, hsz, hP, hK, hD0, hE0⟩ := hv
  have hx := B.exec
  have hb := B.bytes
  have hr := B.returns
  have hts := atoms_spec (ws := Cond.code yX5_secret cX5_secret 6 (some .int) :: WW) B.pre
  have hown : s.vm.findClass RX5 = some m.cls := findClass_of_methodNamed B.named
  have hlocks := B.notSynchronized
  subst hsz
  have hD := hD0.self (sz := s.heap.size)
  generalize hAe : va_A [(h0, .inr (5, [.ref (qa 0), .ref (qa 1), .ref (qa 2), .ref (qa 3), .ref (qa 4), .int 0, .int 0, .int 10, .int 100, .int 0, .int 0])), (qa 0, .inl (cS, 12, .inr (.inr (.inr (.inr fq))))), (qa 5, .inr (3, [.int 0, .int 0, .int 0, .int 0, .int 0, .int 0, .int 0, .int 0, .int 0, .int 0]))] s.heap.size = A at hD ⊢
  have hA : ∀ q : Nat, s.heap.size ≤ q → A q := fun q h => by rw [← hAe]; exact Or.inr h
  have hS : va_S A s.heap s.heap [] := va_S.rf
  have hP : va_P (dC, dI) vwCl [(h0, .inr (5, [.ref (qa 0), .ref (qa 1), .ref (qa 2), .ref (qa 3), .ref (qa 4), .int 0, .int 0, .int 10, .int 100, .int 0, .int 0])), (qa 0, .inl (cS, 12, .inr (.inr (.inr (.inr fq))))), (qa 5, .inr (3, [.int 0, .int 0, .int 0, .int 0, .int 0, .int 0, .int 0, .int 0, .int 0, .int 0]))] s.heap := hP
  have hl := lv_entry ([.ref h0, .int p0, .int p1, .int p2, .int p3]) (n := 6) (Nat.le_of_ble_eq_true rfl)
  rw [lg_entry_eq]
  generalize (lg_sl ([.ref h0, .int p0, .int p1, .int p2, .int p3]) ++ List.replicate (6 - (lg_sl ([.ref h0, .int p0, .int p1, .int p2, .int p3])).length) Slot.unset).toArray = ls at hl ⊢
  have hl : lv_has ls 6 [(0, .ref h0), (1, .int p0), (2, .int p1), (3, .int p2), (4, .int p3)] := hl
  have hE := hE0
  refine lv_iload_n hx hb dX5_secret_0 rfl (lv_at hl 1 rfl) ?_
  refine lv_if_lt (tgt := 49) hx hb dX5_secret_1 (by decide) (fun c_1 => ?_) (fun c_1 => ?_)
  · refine lv_iconst (v := 0) hx hb dX5_secret_49 (by decide) ?_
    refine lv_istore (lv' := [(5, .int 0), (0, .ref h0), (1, .int p0), (2, .int p1), (3, .int p2), (4, .int p3)]) hx hb dX5_secret_50 hl (by decide) rfl (fun ls hl => ?_)
    refine lv_iload hx hb dX5_secret_52 (lv_at hl 0 rfl) ?_
    refine lv_if_eq (tgt := 66) hx hb dX5_secret_54 (by decide) (fun c_2 => ?_) (fun c_2 => absurd (by decide) c_2)
    refine lv_iconst (v := (-1)) hx hb dX5_secret_66 (by decide) ?_
    exact W.iret (v := (-1)) hx hb hr (fun t ht hW => ⟨⟨(-1), (), rfl, (by unfold sp_secret; have z0 := c_1; (try simp only [Int32.lt_iff_toInt_lt, Int32.le_iff_toInt_le, ← Int32.toInt_inj, L0, L1, L5, L7, L10, L12, L15, L16, L20, L63, L1000, L1023, L2000, L10000, L100000, Lm1] at z0); rw [if_pos (by simp only [Int32.lt_iff_toInt_lt, Int32.le_iff_toInt_le, ← Int32.toInt_inj, L0, L1, L5, L7, L10, L12, L15, L16, L20, L63, L1000, L1023, L2000, L10000, L100000, Lm1]; omega)]), trivial⟩, hS.F ht⟩) hS.2.2 dX5_secret_67
  · refine lv_iload_n hx hb dX5_secret_4 rfl (lv_at hl 1 rfl) ?_
    refine lv_iconst (v := 1) hx hb dX5_secret_5 (by decide) ?_
    refine lv_icmp_gt (tgt := 49) hx hb dX5_secret_6 (by decide) (fun c_3 => ?_) (fun c_3 => ?_)
    · refine lv_iconst (v := 0) hx hb dX5_secret_49 (by decide) ?_
      refine lv_istore (lv' := [(5, .int 0), (0, .ref h0), (1, .int p0), (2, .int p1), (3, .int p2), (4, .int p3)]) hx hb dX5_secret_50 hl (by decide) rfl (fun ls hl => ?_)
      refine lv_iload hx hb dX5_secret_52 (lv_at hl 0 rfl) ?_
      refine lv_if_eq (tgt := 66) hx hb dX5_secret_54 (by decide) (fun c_4 => ?_) (fun c_4 => absurd (by decide) c_4)
      refine lv_iconst (v := (-1)) hx hb dX5_secret_66 (by decide) ?_
      exact W.iret (v := (-1)) hx hb hr (fun t ht hW => ⟨⟨(-1), (), rfl, (by unfold sp_secret; have z0 := c_1; have z1 := c_3; (try simp only [Int32.lt_iff_toInt_lt, Int32.le_iff_toInt_le, ← Int32.toInt_inj, L0, L1, L5, L7, L10, L12, L15, L16, L20, L63, L1000, L1023, L2000, L10000, L100000, Lm1] at z0 z1); rw [if_pos (by simp only [Int32.lt_iff_toInt_lt, Int32.le_iff_toInt_le, ← Int32.toInt_inj, L0, L1, L5, L7, L10, L12, L15, L16, L20, L63, L1000, L1023, L2000, L10000, L100000, Lm1]; omega)]), trivial⟩, hS.F ht⟩) hS.2.2 dX5_secret_67
    · refine lv_iload_n hx hb dX5_secret_9 rfl (lv_at hl 2 rfl) ?_
      refine lv_if_lt (tgt := 49) hx hb dX5_secret_10 (by decide) (fun c_5 => ?_) (fun c_5 => ?_)
      · refine lv_iconst (v := 0) hx hb dX5_secret_49 (by decide) ?_
        refine lv_istore (lv' := [(5, .int 0), (0, .ref h0), (1, .int p0), (2, .int p1), (3, .int p2), (4, .int p3)]) hx hb dX5_secret_50 hl (by decide) rfl (fun ls hl => ?_)
        refine lv_iload hx hb dX5_secret_52 (lv_at hl 0 rfl) ?_
        refine lv_if_eq (tgt := 66) hx hb dX5_secret_54 (by decide) (fun c_6 => ?_) (fun c_6 => absurd (by decide) c_6)
        refine lv_iconst (v := (-1)) hx hb dX5_secret_66 (by decide) ?_
        exact W.iret (v := (-1)) hx hb hr (fun t ht hW => ⟨⟨(-1), (), rfl, (by unfold sp_secret; have z0 := c_1; have z1 := c_3; have z2 := c_5; (try simp only [Int32.lt_iff_toInt_lt, Int32.le_iff_toInt_le, ← Int32.toInt_inj, L0, L1, L5, L7, L10, L12, L15, L16, L20, L63, L1000, L1023, L2000, L10000, L100000, Lm1] at z0 z1 z2); rw [if_pos (by simp only [Int32.lt_iff_toInt_lt, Int32.le_iff_toInt_le, ← Int32.toInt_inj, L0, L1, L5, L7, L10, L12, L15, L16, L20, L63, L1000, L1023, L2000, L10000, L100000, Lm1]; omega)]), trivial⟩, hS.F ht⟩) hS.2.2 dX5_secret_67
      · refine lv_iload_n hx hb dX5_secret_13 rfl (lv_at hl 2 rfl) ?_
        refine lv_sipush (v := 1023) hx hb dX5_secret_14 (by decide) ?_
        refine lv_icmp_gt (tgt := 49) hx hb dX5_secret_17 (by decide) (fun c_7 => ?_) (fun c_7 => ?_)
        · refine lv_iconst (v := 0) hx hb dX5_secret_49 (by decide) ?_
          refine lv_istore (lv' := [(5, .int 0), (0, .ref h0), (1, .int p0), (2, .int p1), (3, .int p2), (4, .int p3)]) hx hb dX5_secret_50 hl (by decide) rfl (fun ls hl => ?_)
          refine lv_iload hx hb dX5_secret_52 (lv_at hl 0 rfl) ?_
          refine lv_if_eq (tgt := 66) hx hb dX5_secret_54 (by decide) (fun c_8 => ?_) (fun c_8 => absurd (by decide) c_8)
          refine lv_iconst (v := (-1)) hx hb dX5_secret_66 (by decide) ?_
          exact W.iret (v := (-1)) hx hb hr (fun t ht hW => ⟨⟨(-1), (), rfl, (by unfold sp_secret; have z0 := c_1; have z1 := c_3; have z2 := c_5; have z3 := c_7; (try simp only [Int32.lt_iff_toInt_lt, Int32.le_iff_toInt_le, ← Int32.toInt_inj, L0, L1, L5, L7, L10, L12, L15, L16, L20, L63, L1000, L1023, L2000, L10000, L100000, Lm1] at z0 z1 z2 z3); rw [if_pos (by simp only [Int32.lt_iff_toInt_lt, Int32.le_iff_toInt_le, ← Int32.toInt_inj, L0, L1, L5, L7, L10, L12, L15, L16, L20, L63, L1000, L1023, L2000, L10000, L100000, Lm1]; omega)]), trivial⟩, hS.F ht⟩) hS.2.2 dX5_secret_67
        · refine lv_iload_n hx hb dX5_secret_20 rfl (lv_at hl 3 rfl) ?_
          refine lv_iconst (v := 1) hx hb dX5_secret_21 (by decide) ?_
          refine lv_icmp_lt (tgt := 49) hx hb dX5_secret_22 (by decide) (fun c_9 => ?_) (fun c_9 => ?_)
          · refine lv_iconst (v := 0) hx hb dX5_secret_49 (by decide) ?_
            refine lv_istore (lv' := [(5, .int 0), (0, .ref h0), (1, .int p0), (2, .int p1), (3, .int p2), (4, .int p3)]) hx hb dX5_secret_50 hl (by decide) rfl (fun ls hl => ?_)
            refine lv_iload hx hb dX5_secret_52 (lv_at hl 0 rfl) ?_
            refine lv_if_eq (tgt := 66) hx hb dX5_secret_54 (by decide) (fun c_10 => ?_) (fun c_10 => absurd (by decide) c_10)
            refine lv_iconst (v := (-1)) hx hb dX5_secret_66 (by decide) ?_
            exact W.iret (v := (-1)) hx hb hr (fun t ht hW => ⟨⟨(-1), (), rfl, (by unfold sp_secret; have z0 := c_1; have z1 := c_3; have z2 := c_5; have z3 := c_7; have z4 := c_9; (try simp only [Int32.lt_iff_toInt_lt, Int32.le_iff_toInt_le, ← Int32.toInt_inj, L0, L1, L5, L7, L10, L12, L15, L16, L20, L63, L1000, L1023, L2000, L10000, L100000, Lm1] at z0 z1 z2 z3 z4); rw [if_pos (by simp only [Int32.lt_iff_toInt_lt, Int32.le_iff_toInt_le, ← Int32.toInt_inj, L0, L1, L5, L7, L10, L12, L15, L16, L20, L63, L1000, L1023, L2000, L10000, L100000, Lm1]; omega)]), trivial⟩, hS.F ht⟩) hS.2.2 dX5_secret_67
          · refine lv_iload_n hx hb dX5_secret_25 rfl (lv_at hl 3 rfl) ?_
            refine lv_bipush (v := 63) hx hb dX5_secret_26 (by decide) ?_
            refine lv_icmp_gt (tgt := 49) hx hb dX5_secret_28 (by decide) (fun c_11 => ?_) (fun c_11 => ?_)
            · refine lv_iconst (v := 0) hx hb dX5_secret_49 (by decide) ?_
              refine lv_istore (lv' := [(5, .int 0), (0, .ref h0), (1, .int p0), (2, .int p1), (3, .int p2), (4, .int p3)]) hx hb dX5_secret_50 hl (by decide) rfl (fun ls hl => ?_)
              refine lv_iload hx hb dX5_secret_52 (lv_at hl 0 rfl) ?_
              refine lv_if_eq (tgt := 66) hx hb dX5_secret_54 (by decide) (fun c_12 => ?_) (fun c_12 => absurd (by decide) c_12)
              refine lv_iconst (v := (-1)) hx hb dX5_secret_66 (by decide) ?_
              exact W.iret (v := (-1)) hx hb hr (fun t ht hW => ⟨⟨(-1), (), rfl, (by unfold sp_secret; have z0 := c_1; have z1 := c_3; have z2 := c_5; have z3 := c_7; have z4 := c_9; have z5 := c_11; (try simp only [Int32.lt_iff_toInt_lt, Int32.le_iff_toInt_le, ← Int32.toInt_inj, L0, L1, L5, L7, L10, L12, L15, L16, L20, L63, L1000, L1023, L2000, L10000, L100000, Lm1] at z0 z1 z2 z3 z4 z5); rw [if_pos (by simp only [Int32.lt_iff_toInt_lt, Int32.le_iff_toInt_le, ← Int32.toInt_inj, L0, L1, L5, L7, L10, L12, L15, L16, L20, L63, L1000, L1023, L2000, L10000, L100000, Lm1]; omega)]), trivial⟩, hS.F ht⟩) hS.2.2 dX5_secret_67
            · refine lv_iload hx hb dX5_secret_31 (lv_at hl 4 rfl) ?_
              refine lv_iconst (v := 1) hx hb dX5_secret_33 (by decide) ?_
              refine lv_icmp_lt (tgt := 49) hx hb dX5_secret_34 (by decide) (fun c_13 => ?_) (fun c_13 => ?_)
              · refine lv_iconst (v := 0) hx hb dX5_secret_49 (by decide) ?_
                refine lv_istore (lv' := [(5, .int 0), (0, .ref h0), (1, .int p0), (2, .int p1), (3, .int p2), (4, .int p3)]) hx hb dX5_secret_50 hl (by decide) rfl (fun ls hl => ?_)
                refine lv_iload hx hb dX5_secret_52 (lv_at hl 0 rfl) ?_
                refine lv_if_eq (tgt := 66) hx hb dX5_secret_54 (by decide) (fun c_14 => ?_) (fun c_14 => absurd (by decide) c_14)
                refine lv_iconst (v := (-1)) hx hb dX5_secret_66 (by decide) ?_
                exact W.iret (v := (-1)) hx hb hr (fun t ht hW => ⟨⟨(-1), (), rfl, (by unfold sp_secret; have z0 := c_1; have z1 := c_3; have z2 := c_5; have z3 := c_7; have z4 := c_9; have z5 := c_11; have z6 := c_13; (try simp only [Int32.lt_iff_toInt_lt, Int32.le_iff_toInt_le, ← Int32.toInt_inj, L0, L1, L5, L7, L10, L12, L15, L16, L20, L63, L1000, L1023, L2000, L10000, L100000, Lm1] at z0 z1 z2 z3 z4 z5 z6); rw [if_pos (by simp only [Int32.lt_iff_toInt_lt, Int32.le_iff_toInt_le, ← Int32.toInt_inj, L0, L1, L5, L7, L10, L12, L15, L16, L20, L63, L1000, L1023, L2000, L10000, L100000, Lm1]; omega)]), trivial⟩, hS.F ht⟩) hS.2.2 dX5_secret_67
              · refine lv_iload hx hb dX5_secret_37 (lv_at hl 4 rfl) ?_
                refine lv_sipush (v := 10000) hx hb dX5_secret_39 (by decide) ?_
                refine lv_icmp_gt (tgt := 49) hx hb dX5_secret_42 (by decide) (fun c_15 => ?_) (fun c_15 => ?_)
                · refine lv_iconst (v := 0) hx hb dX5_secret_49 (by decide) ?_
                  refine lv_istore (lv' := [(5, .int 0), (0, .ref h0), (1, .int p0), (2, .int p1), (3, .int p2), (4, .int p3)]) hx hb dX5_secret_50 hl (by decide) rfl (fun ls hl => ?_)
                  refine lv_iload hx hb dX5_secret_52 (lv_at hl 0 rfl) ?_
                  refine lv_if_eq (tgt := 66) hx hb dX5_secret_54 (by decide) (fun c_16 => ?_) (fun c_16 => absurd (by decide) c_16)
                  refine lv_iconst (v := (-1)) hx hb dX5_secret_66 (by decide) ?_
                  exact W.iret (v := (-1)) hx hb hr (fun t ht hW => ⟨⟨(-1), (), rfl, (by unfold sp_secret; have z0 := c_1; have z1 := c_3; have z2 := c_5; have z3 := c_7; have z4 := c_9; have z5 := c_11; have z6 := c_13; have z7 := c_15; (try simp only [Int32.lt_iff_toInt_lt, Int32.le_iff_toInt_le, ← Int32.toInt_inj, L0, L1, L5, L7, L10, L12, L15, L16, L20, L63, L1000, L1023, L2000, L10000, L100000, Lm1] at z0 z1 z2 z3 z4 z5 z6 z7); rw [if_pos (by simp only [Int32.lt_iff_toInt_lt, Int32.le_iff_toInt_le, ← Int32.toInt_inj, L0, L1, L5, L7, L10, L12, L15, L16, L20, L63, L1000, L1023, L2000, L10000, L100000, Lm1]; omega)]), trivial⟩, hS.F ht⟩) hS.2.2 dX5_secret_67
                · refine lv_iconst (v := 1) hx hb dX5_secret_45 (by decide) ?_
                  refine lv_goto (tgt := 50) hx hb dX5_secret_46 (by decide) ?_
                  refine lv_istore (lv' := [(5, .int 1), (0, .ref h0), (1, .int p0), (2, .int p1), (3, .int p2), (4, .int p3)]) hx hb dX5_secret_50 hl (by decide) rfl (fun ls hl => ?_)
                  refine lv_iload hx hb dX5_secret_52 (lv_at hl 0 rfl) ?_
                  refine lv_if_eq (tgt := 66) hx hb dX5_secret_54 (by decide) (fun c_17 => absurd c_17 (by decide)) (fun c_17 => ?_)
                  refine lv_aload_n hx hb dX5_secret_57 rfl (lv_at hl 1 rfl) ?_
                  refine va_get (D := (dC, dI)) (ci := 5) (v := .int 0) (C := RX5) (T := TX5) (N := 11) hx hb hts (fun w h => List.mem_cons_of_mem _ (inWX5 w h)) hown hK hP 0 rfl rfl 5 (by decide) (hts _ (List.mem_cons_of_mem _ kw_0)) (fun _ h9 => h9) rfl dX5_secret_58 ?_
                  refine lv_bipush (v := 12) hx hb dX5_secret_61 (by decide) ?_
                  refine lv_icmp_lt (tgt := 68) hx hb dX5_secret_63 (by decide) (fun c_18 => ?_) (fun c_18 => absurd (by decide) c_18)
                  refine lv_aload_n hx hb dX5_secret_68 rfl (lv_at hl 1 rfl) ?_
                  refine va_get (D := (dC, dI)) (ci := 5) (v := .ref (qa 0)) (C := RX5) (T := TX5) (N := 11) hx hb hts (fun w h => List.mem_cons_of_mem _ (inWX5 w h)) hown hK hP 0 rfl rfl 0 (by decide) (hts _ (List.mem_cons_of_mem _ kw_53)) (fun _ h9 => h9) rfl dX5_secret_69 ?_
                  refine lv_aload_n hx hb dX5_secret_72 rfl (lv_at hl 1 rfl) ?_
                  refine va_get (D := (dC, dI)) (ci := 5) (v := .int 0) (C := RX5) (T := TX5) (N := 11) hx hb hts (fun w h => List.mem_cons_of_mem _ (inWX5 w h)) hown hK hP 0 rfl rfl 5 (by decide) (hts _ (List.mem_cons_of_mem _ kw_0)) (fun _ h9 => h9) rfl dX5_secret_73 ?_
                  refine va_aldq hx hb hK hP 1 2 rfl rfl (by unfold vp_in; decide) dX5_secret_76 ?_
                  rw [hE]
                  refine W.eq (g2 := F0 m 77 ls [.ref (qa 5)]) rfl ?_
                  refine lv_iload_n hx hb dX5_secret_77 rfl (lv_at hl 2 rfl) ?_
                  refine lv_iload_n hx hb dX5_secret_78 rfl (lv_at hl 3 rfl) ?_
                  refine lv_iload_n hx hb dX5_secret_79 rfl (lv_at hl 4 rfl) ?_
                  refine lv_iload hx hb dX5_secret_80 (lv_at hl 5 rfl) ?_
                  refine lv_aload_n hx hb dX5_secret_82 rfl (lv_at hl 1 rfl) ?_
                  refine va_get (D := (dC, dI)) (ci := 5) (v := .int 0) (C := RX5) (T := TX5) (N := 11) hx hb hts (fun w h => List.mem_cons_of_mem _ (inWX5 w h)) hown hK hP 0 rfl rfl 6 (by decide) (hts _ (List.mem_cons_of_mem _ kw_10)) (fun _ h9 => h9) rfl dX5_secret_83 ?_
                  have hPc := hP.sub (ws' := [(qa 5, .inr (3, [.int 0, .int 0, .int 0, .int 0, .int 0, .int 0, .int 0, .int 0, .int 0, .int 0]))]) [2] rfl
                  have hDc := hD.sub (ws' := [(qa 5, .inr (3, [.int 0, .int 0, .int 0, .int 0, .int 0, .int 0, .int 0, .int 0, .int 0, .int 0]))]) [2] (by decide) rfl
                  have hFc := va_free (wc := [(qa 5, .inr (3, [.int 0, .int 0, .int 0, .int 0, .int 0, .int 0, .int 0, .int 0, .int 0, .int 0]))]) hD hS hA [2] rfl
                  refine va_callv (va_runV (As := [.int p0, .int p1, .int p2, .int p3, .int 0]) (rest := []) ⟨hx, hb, hml, hown, hts⟩ (c_X3_open l dC dI cI cZ cS cC (qa 5) s.heap.size qa p0 p1 p2 p3 0) (cwV 5 hts (gV (fun w h => List.mem_cons_of_mem _ h) kw_55 kw_56 kw_57 kw_58 kw_54) rfl rfl rfl (by decide +kernel) ⟨Nat.le_of_ble_eq_true rfl, Nat.le_of_ble_eq_true rfl⟩) ⟨fun a U g mk q => by obtain ⟨q0, q1, qP, qK, qD⟩ := q; exact ⟨q0, q1, qP, va_K.moved (u := U) (U := U.calling g mk a) (Vm.Alike.refl U.vm) qK, qD⟩, va_recv hK hP (ci := 3) (q0 := 2) rfl rfl, fun U hU hW => ⟨rfl, by rw [hU], by rw [hU]; exact hPc, va_K.moved hW.alike hK, hDc.weaken (fun _ _ _ _ => trivial)⟩⟩ rfl rfl hl.1 rfl (lv_room (Nat.le_of_ble_eq_true rfl)) dX5_secret_86 ⟨Nat.le_of_ble_eq_true rfl, Nat.le_of_ble_eq_true rfl⟩) hS (fun q _ h => hFc q h) hFc (fun u_19 t H1 locs ht hvm hw_19 hB hz1 hk1 hS => ?_)
                  obtain ⟨hP, hD⟩ := va_join (wc := [(qa 5, .inr (3, [.int 0, .int 0, .int 0, .int 0, .int 0, .int 0, .int 0, .int 0, .int 0, .int 0]))]) (wr := [(h0, .inr (5, [.ref (qa 0), .ref (qa 1), .ref (qa 2), .ref (qa 3), .ref (qa 4), .int 0, .int 0, .int 10, .int 100, .int 0, .int 0])), (qa 0, .inl (cS, 12, .inr (.inr (.inr (.inr fq)))))]) (w1 := []) hP hD [2] [0, 1] rfl rfl (by decide) (by decide) hk1 hFc kt_P0 kt_D0
                  generalize H1 = H at hP hS ⊢
                  have hP : va_P (dC, dI) vwCl [(h0, .inr (5, [.ref (qa 0), .ref (qa 1), .ref (qa 2), .ref (qa 3), .ref (qa 4), .int 0, .int 0, .int 10, .int 100, .int 0, .int 0])), (qa 0, .inl (cS, 12, .inr (.inr (.inr (.inr fq)))))] H := hP
                  have hD : va_D A [(h0, .inr (5, [.ref (qa 0), .ref (qa 1), .ref (qa 2), .ref (qa 3), .ref (qa 4), .int 0, .int 0, .int 10, .int 100, .int 0, .int 0])), (qa 0, .inl (cS, 12, .inr (.inr (.inr (.inr fq)))))] := hD
                  refine lv_aload_n hx hb dX5_secret_89 rfl (lv_at hl 1 rfl) ?_
                  refine lv_dup hx hb dX5_secret_90 rfl ?_
                  refine va_get (D := (dC, dI)) (ci := 5) (v := .int 0) (C := RX5) (T := TX5) (N := 11) hx hb hts (fun w h => List.mem_cons_of_mem _ (inWX5 w h)) hown hK hP 0 rfl rfl 5 (by decide) (hts _ (List.mem_cons_of_mem _ kw_0)) (fun _ h9 => h9) rfl dX5_secret_91 ?_
                  refine lv_iconst (v := 1) hx hb dX5_secret_94 (by decide) ?_
                  refine lv_iadd hx hb dX5_secret_95 ?_
                  refine lv_topi (fun t_20 et_20 => ?_)
                  obtain rfl : t_20 = 1 := et_20.trans (by decide)
                  refine va_put (D := (dC, dI)) (ci := 5) (v := .int 1) (ty := .int) (C := RX5) (T := TX5) (N := 11) hx hb hts (fun w h => List.mem_cons_of_mem _ (inWX5 w h)) tyX5 tyX5_ok nmX5 hown hK hP hD hS 0 rfl rfl 5 (by decide) (hts _ (List.mem_cons_of_mem _ kw_0)) (fun _ h9 => h9) rfl (by decide +kernel) rfl rfl (Nat.le_of_ble_eq_true rfl) dX5_secret_96 (fun H locs hP hD hS => ?_)
                  have hP : va_P (dC, dI) vwCl [(h0, .inr (5, [.ref (qa 0), .ref (qa 1), .ref (qa 2), .ref (qa 3), .ref (qa 4), .int 1, .int 0, .int 10, .int 100, .int 0, .int 0])), (qa 0, .inl (cS, 12, .inr (.inr (.inr (.inr fq)))))] H := hP
                  have hD : va_D A [(h0, .inr (5, [.ref (qa 0), .ref (qa 1), .ref (qa 2), .ref (qa 3), .ref (qa 4), .int 1, .int 0, .int 10, .int 100, .int 0, .int 0])), (qa 0, .inl (cS, 12, .inr (.inr (.inr (.inr fq)))))] := hD
                  refine lv_aload_n hx hb dX5_secret_99 rfl (lv_at hl 1 rfl) ?_
                  refine va_get (D := (dC, dI)) (ci := 5) (v := .int 1) (C := RX5) (T := TX5) (N := 11) hx hb hts (fun w h => List.mem_cons_of_mem _ (inWX5 w h)) hown hK hP 0 rfl rfl 5 (by decide) (hts _ (List.mem_cons_of_mem _ kw_0)) (fun _ h9 => h9) rfl dX5_secret_100 ?_
                  refine lv_iconst (v := 1) hx hb dX5_secret_103 (by decide) ?_
                  refine lv_isub hx hb dX5_secret_104 ?_
                  refine lv_topi (fun t_21 et_21 => ?_)
                  obtain rfl : t_21 = 0 := et_21.trans (by decide)
                  exact W.iret (v := 0) hx hb hr (fun t ht hW => ⟨⟨0, (), rfl, (by unfold sp_secret; have z0 := c_1; have z1 := c_3; have z2 := c_5; have z3 := c_7; have z4 := c_9; have z5 := c_11; have z6 := c_13; have z7 := c_15; (try simp only [Int32.lt_iff_toInt_lt, Int32.le_iff_toInt_le, ← Int32.toInt_inj, L0, L1, L5, L7, L10, L12, L15, L16, L20, L63, L1000, L1023, L2000, L10000, L100000, Lm1] at z0 z1 z2 z3 z4 z5 z6 z7); rw [if_neg (by simp only [Int32.lt_iff_toInt_lt, Int32.le_iff_toInt_le, ← Int32.toInt_inj, L0, L1, L5, L7, L10, L12, L15, L16, L20, L63, L1000, L1023, L2000, L10000, L100000, Lm1]; omega)]), trivial⟩, hS.F ht⟩) hS.2.2 dX5_secret_105
