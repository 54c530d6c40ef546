set_option maxHeartbeats 4000000 in
set_option maxRecDepth 100000 in
theorem c_X0_isStepOver (l : Launch) (dC : Nat → ClassId) (dI : Nat → Nat → Nat) (cI cZ cS cC : ClassId) (h0 sz : Nat) (qa : Nat → Nat) (a0 : Nat) (a1 : Nat) (x0 : Int32) (x1 : Int32) (x2 : Int32) (x3 : Int32) (x4 : Int32) (x5 : Int32) (x6 : Int32) (p0 p1 p2 : Int32) : Met l yX0_isStepOver (Cond.code yX0_isStepOver cX0_isStepOver 4 (some .boolean) :: WW) ({ frames := 2, cells := 0, slots := 0, locals := 60 }) (va_Pc [.ref h0, .int p0, .int p1, .int p2] (fun U => U.heap.size = sz ∧ va_P (dC, dI) vwCl [(h0, .inr (0, [.ref a0, .ref a1, .int x0, .int x1, .int x2, .int x3, .int x4, .int x5, .int x6]))] U.heap ∧ va_K (dC, dI) vwCl [(cI, .int), (cZ, .boolean), (cS, .object RX3), (cC, .object RX0)] U ∧ va_D (fun _ => True) [(h0, .inr (0, [.ref a0, .ref a1, .int x0, .int x1, .int x2, .int x3, .int x4, .int x5, .int x6]))])) (va_Qi (fun (r : Int32) (_ : Unit) => r = 0 ∨ r = 1) (fun (_ : Unit) (_ : State) => True) (va_A [] sz)) 0 0 (va_A [] sz) := by
  refine Met.ofW (cc := cX0_isStepOver) (maxL := 4) (ret := (some .boolean)) (by decide) rfl ?_
  intro p e s m args below meth c s₁ B hml hv
  obtain ⟨rfl, hsz, hP, hK, hD0⟩ := hv
  have hx := B.exec
  have hb := B.bytes
  have hr := B.returns
  have hts := atoms_spec (ws := Cond.code yX0_isStepOver cX0_isStepOver 4 (some .boolean) :: WW) B.pre
  have hown : s.vm.findClass RX0 = some m.cls := findClass_of_methodNamed B.named
  have hlocks := B.notSynchronized
  subst hsz
  have hD := hD0
  generalize hAe : va_A [] s.heap.size = A
  have hA : ∀ q : Nat, s.heap.size ≤ q → A q := fun q h => by rw [← hAe]; exact Or.inr h
  have hS : va_S A s.heap s.heap [] := va_S.rf
  have hP : va_P (dC, dI) vwCl [(h0, .inr (0, [.ref a0, .ref a1, .int x0, .int x1, .int x2, .int x3, .int x4, .int x5, .int x6]))] s.heap := hP
  have hl := lv_entry ([.ref h0, .int p0, .int p1, .int p2]) (n := 4) (Nat.le_of_ble_eq_true rfl)
  rw [lg_entry_eq]
  generalize (lg_sl ([.ref h0, .int p0, .int p1, .int p2]) ++ List.replicate (4 - (lg_sl ([.ref h0, .int p0, .int p1, .int p2])).length) Slot.unset).toArray = ls at hl ⊢
  have hl : lv_has ls 4 [(0, .ref h0), (1, .int p0), (2, .int p1), (3, .int p2)] := hl
  refine lv_aload_n hx hb dX0_isStepOver_0 rfl (lv_at hl 0 rfl) ?_
  refine va_get (D := (dC, dI)) (ci := 0) (v := .int x2) (C := RX0) (T := TX0) (N := 9) hx hb hts (fun w h => List.mem_cons_of_mem _ (inWX0 w h)) hown hK hP 0 rfl rfl 4 (by decide) (hts _ (List.mem_cons_of_mem _ kw_t1_130)) (fun _ h9 => h9) rfl dX0_isStepOver_1 ?_
  refine lv_iconst (v := 3) hx hb dX0_isStepOver_4 (by decide) ?_
  refine lv_icmp_ne (tgt := 24) hx hb dX0_isStepOver_5 (by decide) (fun c_1 => ?_) (fun c_1 => ?_)
  · refine lv_aload_n hx hb dX0_isStepOver_24 rfl (lv_at hl 0 rfl) ?_
    have hPc := hP.sub (ws' := [(h0, .inr (0, [.ref a0, .ref a1, .int x0, .int x1, .int x2, .int x3, .int x4, .int x5, .int x6]))]) [0] rfl
    have hDc := hD.sub (ws' := [(h0, .inr (0, [.ref a0, .ref a1, .int x0, .int x1, .int x2, .int x3, .int x4, .int x5, .int x6]))]) [0] (by decide) rfl
    have hFc : ∀ q, va_A ([] : va_W) s.heap.size q → A q := va_free (wc := []) (ws := []) kt_D0 hS hA [] rfl
    refine va_calli (va_runV (As := []) (rest := []) ⟨hx, hb, hml, hown, hts⟩ (c_X0_goesOn l dC dI cI cZ cS cC h0 s.heap.size (fun _ => 0) a0 a1 x0 x1 x2 x3 x4 x5 x6) (cwV 0 hts (gV (fun w h => List.mem_cons_of_mem _ h) kw_t2_84 kw_t2_7 kw_t2_8 kw_t1_5 kw_t2_9) rfl rfl rfl (by decide +kernel) ⟨Nat.le_of_ble_eq_true rfl, Nat.le_of_ble_eq_true rfl⟩) ⟨fun a U g mk q => by obtain ⟨q0, q1, qP, qK, qD⟩ := q; exact ⟨q0, q1, qP, va_K.moved (u := U) (U := U.calling g mk a) (Vm.Alike.refl U.vm) qK, qD⟩, va_recv hK hP (ci := 0) (q0 := 0) rfl rfl, fun U hU hW => ⟨rfl, by rw [hU], by rw [hU]; exact hPc, va_K.moved hW.alike hK, hDc.weaken (fun _ _ _ _ => trivial)⟩⟩ rfl rfl hl.1 rfl (lv_room (Nat.le_of_ble_eq_true rfl)) dX0_isStepOver_25 ⟨Nat.le_of_ble_eq_true rfl, Nat.le_of_ble_eq_true rfl⟩) hS (fun q _ h => hFc q h) hFc (fun r_2 u_2 t H1 locs ht hvm hw_2 hB hz1 hk1 hS => ?_)
    obtain ⟨hP, hD⟩ := va_join (A0 := fun _ => True) (wc := []) (wr := [(h0, .inr (0, [.ref a0, .ref a1, .int x0, .int x1, .int x2, .int x3, .int x4, .int x5, .int x6]))]) (w1 := []) hP hD [] [0] rfl rfl (by decide) (by decide) hk1 (fun _ _ => trivial) kt_P0 kt_D0
    generalize H1 = H at hP hS ⊢
    have hP : va_P (dC, dI) vwCl [(h0, .inr (0, [.ref a0, .ref a1, .int x0, .int x1, .int x2, .int x3, .int x4, .int x5, .int x6]))] H := hP
    have hD : va_D (fun _ => True) [(h0, .inr (0, [.ref a0, .ref a1, .int x0, .int x1, .int x2, .int x3, .int x4, .int x5, .int x6]))] := hD
    rcases hw_2 with hw_2h | hw_2h
    · subst hw_2h
      refine lv_if_eq (tgt := 42) hx hb dX0_isStepOver_28 (by decide) (fun c_3 => ?_) (fun c_3 => absurd (by decide) c_3)
      refine lv_iconst (v := 0) hx hb dX0_isStepOver_42 (by decide) ?_
      exact W.zret (v := 0) (ty := .boolean) hx hb hr rfl (fun t ht hW => ⟨⟨0, (), rfl, (Or.inl rfl), trivial⟩, hS.F ht⟩) hS.2.2 dX0_isStepOver_43
    · subst hw_2h
      refine lv_if_eq (tgt := 42) hx hb dX0_isStepOver_28 (by decide) (fun c_4 => absurd c_4 (by decide)) (fun c_4 => ?_)
      refine lv_aload_n hx hb dX0_isStepOver_31 rfl (lv_at hl 0 rfl) ?_
      refine va_get (D := (dC, dI)) (ci := 0) (v := .int x0) (C := RX0) (T := TX0) (N := 9) hx hb hts (fun w h => List.mem_cons_of_mem _ (inWX0 w h)) hown hK hP 0 rfl rfl 2 (by decide) (hts _ (List.mem_cons_of_mem _ kw_t1_127)) (fun _ h9 => h9) rfl dX0_isStepOver_32 ?_
      refine lv_if_ne (tgt := 42) hx hb dX0_isStepOver_35 (by decide) (fun c_5 => ?_) (fun c_5 => ?_)
      · refine lv_iconst (v := 0) hx hb dX0_isStepOver_42 (by decide) ?_
        exact W.zret (v := 0) (ty := .boolean) hx hb hr rfl (fun t ht hW => ⟨⟨0, (), rfl, (Or.inl rfl), trivial⟩, hS.F ht⟩) hS.2.2 dX0_isStepOver_43
      · refine lv_iconst (v := 1) hx hb dX0_isStepOver_38 (by decide) ?_
        refine lv_goto (tgt := 43) hx hb dX0_isStepOver_39 (by decide) ?_
        exact W.zret (v := 1) (ty := .boolean) hx hb hr rfl (fun t ht hW => ⟨⟨1, (), rfl, (Or.inr rfl), trivial⟩, hS.F ht⟩) hS.2.2 dX0_isStepOver_43
  · refine lv_iload_n hx hb dX0_isStepOver_8 rfl (lv_at hl 1 rfl) ?_
    refine lv_aload_n hx hb dX0_isStepOver_9 rfl (lv_at hl 0 rfl) ?_
    refine lv_iload_n hx hb dX0_isStepOver_10 rfl (lv_at hl 2 rfl) ?_
    refine lv_iload_n hx hb dX0_isStepOver_11 rfl (lv_at hl 3 rfl) ?_
    have hPc := hP.sub (ws' := [(h0, .inr (0, [.ref a0, .ref a1, .int x0, .int x1, .int x2, .int x3, .int x4, .int x5, .int x6]))]) [0] rfl
    have hDc := hD.sub (ws' := [(h0, .inr (0, [.ref a0, .ref a1, .int x0, .int x1, .int x2, .int x3, .int x4, .int x5, .int x6]))]) [0] (by decide) rfl
    have hFc : ∀ q, va_A ([] : va_W) s.heap.size q → A q := va_free (wc := []) (ws := []) kt_D0 hS hA [] rfl
    refine va_calli (va_runV (As := [.int p1, .int p2]) (rest := [.int p0]) ⟨hx, hb, hml, hown, hts⟩ (c_X0_endOfWait l dC dI cI cZ cS cC h0 s.heap.size (fun _ => 0) a0 a1 x0 x1 x2 x3 x4 x5 x6 p1 p2) (cwV 2 hts (gV (fun w h => List.mem_cons_of_mem _ h) kw_t2_76 kw_t2_77 kw_t2_78 kw_t1_5 kw_t2_79) rfl rfl rfl (by decide +kernel) ⟨Nat.le_of_ble_eq_true rfl, Nat.le_of_ble_eq_true rfl⟩) ⟨fun a U g mk q => by obtain ⟨q0, q1, qP, qK, qD⟩ := q; exact ⟨q0, q1, qP, va_K.moved (u := U) (U := U.calling g mk a) (Vm.Alike.refl U.vm) qK, qD⟩, va_recv hK hP (ci := 0) (q0 := 0) rfl rfl, fun U hU hW => ⟨rfl, by rw [hU], by rw [hU]; exact hPc, va_K.moved hW.alike hK, hDc.weaken (fun _ _ _ _ => trivial)⟩⟩ rfl rfl hl.1 rfl (lv_room (Nat.le_of_ble_eq_true rfl)) dX0_isStepOver_12 ⟨Nat.le_of_ble_eq_true rfl, Nat.le_of_ble_eq_true rfl⟩) hS (fun q _ h => hFc q h) hFc (fun r_6 u_6 t H1 locs ht hvm hw_6 hB hz1 hk1 hS => ?_)
    obtain ⟨hP, hD⟩ := va_join (A0 := fun _ => True) (wc := []) (wr := [(h0, .inr (0, [.ref a0, .ref a1, .int x0, .int x1, .int x2, .int x3, .int x4, .int x5, .int x6]))]) (w1 := []) hP hD [] [0] rfl rfl (by decide) (by decide) hk1 (fun _ _ => trivial) kt_P0 kt_D0
    generalize H1 = H at hP hS ⊢
    have hP : va_P (dC, dI) vwCl [(h0, .inr (0, [.ref a0, .ref a1, .int x0, .int x1, .int x2, .int x3, .int x4, .int x5, .int x6]))] H := hP
    have hD : va_D (fun _ => True) [(h0, .inr (0, [.ref a0, .ref a1, .int x0, .int x1, .int x2, .int x3, .int x4, .int x5, .int x6]))] := hD
    refine lv_icmp_lt (tgt := 22) hx hb dX0_isStepOver_15 (by decide) (fun c_7 => ?_) (fun c_7 => ?_)
    · refine lv_iconst (v := 0) hx hb dX0_isStepOver_22 (by decide) ?_
      exact W.zret (v := 0) (ty := .boolean) hx hb hr rfl (fun t ht hW => ⟨⟨0, (), rfl, (Or.inl rfl), trivial⟩, hS.F ht⟩) hS.2.2 dX0_isStepOver_23
    · refine lv_iconst (v := 1) hx hb dX0_isStepOver_18 (by decide) ?_
      refine lv_goto (tgt := 23) hx hb dX0_isStepOver_19 (by decide) ?_
      exact W.zret (v := 1) (ty := .boolean) hx hb hr rfl (fun t ht hW => ⟨⟨1, (), rfl, (Or.inr rfl), trivial⟩, hS.F ht⟩) hS.2.2 dX0_isStepOver_23

set_option maxHeartbeats 4000000 in
set_option maxRecDepth 100000 in
theorem c_X0_nextStepEnd (l : Launch) (dC : Nat → ClassId) (dI : Nat → Nat → Nat) (cI cZ cS cC : ClassId) (h0 sz : Nat) (qa : Nat → Nat) (a0 : Nat) (a1 : Nat) (x0 : Int32) (x1 : Int32) (x2 : Int32) (x3 : Int32) (x4 : Int32) (x5 : Int32) (x6 : Int32) (p0 p1 p2 p3 : Int32) : Met l yX0_nextStepEnd (Cond.code yX0_nextStepEnd cX0_nextStepEnd 5 (some .int) :: WW) ({ frames := 3, cells := 0, slots := 0, locals := 90 }) (va_Pc [.ref h0, .int p0, .int p1, .int p2, .int p3] (fun U => U.heap.size = sz ∧ va_P (dC, dI) vwCl [(h0, .inr (0, [.ref a0, .ref a1, .int x0, .int x1, .int x2, .int x3, .int x4, .int x5, .int x6]))] U.heap ∧ va_K (dC, dI) vwCl [(cI, .int), (cZ, .boolean), (cS, .object RX3), (cC, .object RX0)] U ∧ va_D (fun _ => True) [(h0, .inr (0, [.ref a0, .ref a1, .int x0, .int x1, .int x2, .int x3, .int x4, .int x5, .int x6]))])) (va_Qi (fun (_ : Int32) (_ : Unit) => True) (fun (_ : Unit) (_ : State) => True) (va_A [] sz)) 0 0 (va_A [] sz) := by
  refine Met.ofW (cc := cX0_nextStepEnd) (maxL := 5) (ret := (some .int)) (by decide) rfl ?_
  intro p e s m args below meth c s₁ B hml hv
  obtain ⟨rfl, hsz, hP, hK, hD0⟩ := hv
  have hx := B.exec
  have hb := B.bytes
  have hr := B.returns
  have hts := atoms_spec (ws := Cond.code yX0_nextStepEnd cX0_nextStepEnd 5 (some .int) :: WW) B.pre
  have hown : s.vm.findClass RX0 = some m.cls := findClass_of_methodNamed B.named
  have hlocks := B.notSynchronized
  subst hsz
  have hD := hD0
  generalize hAe : va_A [] s.heap.size = A
  have hA : ∀ q : Nat, s.heap.size ≤ q → A q := fun q h => by rw [← hAe]; exact Or.inr h
  have hS : va_S A s.heap s.heap [] := va_S.rf
  have hP : va_P (dC, dI) vwCl [(h0, .inr (0, [.ref a0, .ref a1, .int x0, .int x1, .int x2, .int x3, .int x4, .int x5, .int x6]))] s.heap := hP
  have hl := lv_entry ([.ref h0, .int p0, .int p1, .int p2, .int p3]) (n := 5) (Nat.le_of_ble_eq_true rfl)
  rw [lg_entry_eq]
  generalize (lg_sl ([.ref h0, .int p0, .int p1, .int p2, .int p3]) ++ List.replicate (5 - (lg_sl ([.ref h0, .int p0, .int p1, .int p2, .int p3])).length) Slot.unset).toArray = ls at hl ⊢
  have hl : lv_has ls 5 [(0, .ref h0), (1, .int p0), (2, .int p1), (3, .int p2), (4, .int p3)] := hl
  refine lv_aload_n hx hb dX0_nextStepEnd_0 rfl (lv_at hl 0 rfl) ?_
  refine va_get (D := (dC, dI)) (ci := 0) (v := .int x2) (C := RX0) (T := TX0) (N := 9) hx hb hts (fun w h => List.mem_cons_of_mem _ (inWX0 w h)) hown hK hP 0 rfl rfl 4 (by decide) (hts _ (List.mem_cons_of_mem _ kw_t1_130)) (fun _ h9 => h9) rfl dX0_nextStepEnd_1 ?_
  refine lv_iconst (v := 3) hx hb dX0_nextStepEnd_4 (by decide) ?_
  refine lv_icmp_ne (tgt := 16) hx hb dX0_nextStepEnd_5 (by decide) (fun c_1 => ?_) (fun c_1 => ?_)
  · refine lv_aload_n hx hb dX0_nextStepEnd_16 rfl (lv_at hl 0 rfl) ?_
    refine lv_iload_n hx hb dX0_nextStepEnd_17 rfl (lv_at hl 2 rfl) ?_
    refine lv_iload_n hx hb dX0_nextStepEnd_18 rfl (lv_at hl 3 rfl) ?_
    refine lv_iload hx hb dX0_nextStepEnd_19 (lv_at hl 4 rfl) ?_
    have hPc := hP.sub (ws' := [(h0, .inr (0, [.ref a0, .ref a1, .int x0, .int x1, .int x2, .int x3, .int x4, .int x5, .int x6]))]) [0] rfl
    have hDc := hD.sub (ws' := [(h0, .inr (0, [.ref a0, .ref a1, .int x0, .int x1, .int x2, .int x3, .int x4, .int x5, .int x6]))]) [0] (by decide) rfl
    have hFc : ∀ q, va_A ([] : va_W) s.heap.size q → A q := va_free (wc := []) (ws := []) kt_D0 hS hA [] rfl
    refine va_calli (va_runV (As := [.int p1, .int p2, .int p3]) (rest := []) ⟨hx, hb, hml, hown, hts⟩ (c_X0_isStepOver l dC dI cI cZ cS cC h0 s.heap.size (fun _ => 0) a0 a1 x0 x1 x2 x3 x4 x5 x6 p1 p2 p3) (cwV 3 hts (gV (fun w h => List.mem_cons_of_mem _ h) kw_t2_80 kw_t2_81 kw_t2_82 kw_t1_5 kw_t2_83) rfl rfl rfl (by decide +kernel) ⟨Nat.le_of_ble_eq_true rfl, Nat.le_of_ble_eq_true rfl⟩) ⟨fun a U g mk q => by obtain ⟨q0, q1, qP, qK, qD⟩ := q; exact ⟨q0, q1, qP, va_K.moved (u := U) (U := U.calling g mk a) (Vm.Alike.refl U.vm) qK, qD⟩, va_recv hK hP (ci := 0) (q0 := 0) rfl rfl, fun U hU hW => ⟨rfl, by rw [hU], by rw [hU]; exact hPc, va_K.moved hW.alike hK, hDc.weaken (fun _ _ _ _ => trivial)⟩⟩ rfl rfl hl.1 rfl (lv_room (Nat.le_of_ble_eq_true rfl)) dX0_nextStepEnd_21 ⟨Nat.le_of_ble_eq_true rfl, Nat.le_of_ble_eq_true rfl⟩) hS (fun q _ h => hFc q h) hFc (fun r_2 u_2 t H1 locs ht hvm hw_2 hB hz1 hk1 hS => ?_)
    obtain ⟨hP, hD⟩ := va_join (A0 := fun _ => True) (wc := []) (wr := [(h0, .inr (0, [.ref a0, .ref a1, .int x0, .int x1, .int x2, .int x3, .int x4, .int x5, .int x6]))]) (w1 := []) hP hD [] [0] rfl rfl (by decide) (by decide) hk1 (fun _ _ => trivial) kt_P0 kt_D0
    generalize H1 = H at hP hS ⊢
    have hP : va_P (dC, dI) vwCl [(h0, .inr (0, [.ref a0, .ref a1, .int x0, .int x1, .int x2, .int x3, .int x4, .int x5, .int x6]))] H := hP
    have hD : va_D (fun _ => True) [(h0, .inr (0, [.ref a0, .ref a1, .int x0, .int x1, .int x2, .int x3, .int x4, .int x5, .int x6]))] := hD
    rcases hw_2 with hw_2h | hw_2h
    · subst hw_2h
      refine lv_if_eq (tgt := 31) hx hb dX0_nextStepEnd_24 (by decide) (fun c_3 => ?_) (fun c_3 => absurd (by decide) c_3)
      refine lv_iload_n hx hb dX0_nextStepEnd_31 rfl (lv_at hl 1 rfl) ?_
      exact W.iret (v := p0) hx hb hr (fun t ht hW => ⟨⟨p0, (), rfl, trivial, trivial⟩, hS.F ht⟩) hS.2.2 dX0_nextStepEnd_32
    · subst hw_2h
      refine lv_if_eq (tgt := 31) hx hb dX0_nextStepEnd_24 (by decide) (fun c_4 => absurd c_4 (by decide)) (fun c_4 => ?_)
      refine lv_iload_n hx hb dX0_nextStepEnd_27 rfl (lv_at hl 2 rfl) ?_
      refine lv_goto (tgt := 32) hx hb dX0_nextStepEnd_28 (by decide) ?_
      exact W.iret (v := p1) hx hb hr (fun t ht hW => ⟨⟨p1, (), rfl, trivial, trivial⟩, hS.F ht⟩) hS.2.2 dX0_nextStepEnd_32
  · refine lv_aload_n hx hb dX0_nextStepEnd_8 rfl (lv_at hl 0 rfl) ?_
    refine lv_iload_n hx hb dX0_nextStepEnd_9 rfl (lv_at hl 3 rfl) ?_
    refine lv_iload hx hb dX0_nextStepEnd_10 (lv_at hl 4 rfl) ?_
    have hPc := hP.sub (ws' := [(h0, .inr (0, [.ref a0, .ref a1, .int x0, .int x1, .int x2, .int x3, .int x4, .int x5, .int x6]))]) [0] rfl
    have hDc := hD.sub (ws' := [(h0, .inr (0, [.ref a0, .ref a1, .int x0, .int x1, .int x2, .int x3, .int x4, .int x5, .int x6]))]) [0] (by decide) rfl
    have hFc : ∀ q, va_A ([] : va_W) s.heap.size q → A q := va_free (wc := []) (ws := []) kt_D0 hS hA [] rfl
    refine va_calli (va_runV (As := [.int p2, .int p3]) (rest := []) ⟨hx, hb, hml, hown, hts⟩ (c_X0_endOfWait l dC dI cI cZ cS cC h0 s.heap.size (fun _ => 0) a0 a1 x0 x1 x2 x3 x4 x5 x6 p2 p3) (cwV 2 hts (gV (fun w h => List.mem_cons_of_mem _ h) kw_t2_76 kw_t2_77 kw_t2_78 kw_t1_5 kw_t2_79) rfl rfl rfl (by decide +kernel) ⟨Nat.le_of_ble_eq_true rfl, Nat.le_of_ble_eq_true rfl⟩) ⟨fun a U g mk q => by obtain ⟨q0, q1, qP, qK, qD⟩ := q; exact ⟨q0, q1, qP, va_K.moved (u := U) (U := U.calling g mk a) (Vm.Alike.refl U.vm) qK, qD⟩, va_recv hK hP (ci := 0) (q0 := 0) rfl rfl, fun U hU hW => ⟨rfl, by rw [hU], by rw [hU]; exact hPc, va_K.moved hW.alike hK, hDc.weaken (fun _ _ _ _ => trivial)⟩⟩ rfl rfl hl.1 rfl (lv_room (Nat.le_of_ble_eq_true rfl)) dX0_nextStepEnd_12 ⟨Nat.le_of_ble_eq_true rfl, Nat.le_of_ble_eq_true rfl⟩) hS (fun q _ h => hFc q h) hFc (fun r_5 u_5 t H1 locs ht hvm hw_5 hB hz1 hk1 hS => ?_)
    obtain ⟨hP, hD⟩ := va_join (A0 := fun _ => True) (wc := []) (wr := [(h0, .inr (0, [.ref a0, .ref a1, .int x0, .int x1, .int x2, .int x3, .int x4, .int x5, .int x6]))]) (w1 := []) hP hD [] [0] rfl rfl (by decide) (by decide) hk1 (fun _ _ => trivial) kt_P0 kt_D0
    generalize H1 = H at hP hS ⊢
    have hP : va_P (dC, dI) vwCl [(h0, .inr (0, [.ref a0, .ref a1, .int x0, .int x1, .int x2, .int x3, .int x4, .int x5, .int x6]))] H := hP
    have hD : va_D (fun _ => True) [(h0, .inr (0, [.ref a0, .ref a1, .int x0, .int x1, .int x2, .int x3, .int x4, .int x5, .int x6]))] := hD
    exact W.iret (v := r_5) hx hb hr (fun t ht hW => ⟨⟨r_5, (), rfl, trivial, trivial⟩, hS.F ht⟩) hS.2.2 dX0_nextStepEnd_15

set_option maxHeartbeats 4000000 in
set_option maxRecDepth 100000 in
theorem c_X0_followingStep (l : Launch) (dC : Nat → ClassId) (dI : Nat → Nat → Nat) (cI cZ cS cC : ClassId) (h0 sz : Nat) (qa : Nat → Nat) (a0 : Nat) (a1 : Nat) (x0 : Int32) (x1 : Int32) (x2 : Int32) (x3 : Int32) (x4 : Int32) (x5 : Int32) (x6 : Int32) : Met l yX0_followingStep (Cond.code yX0_followingStep cX0_followingStep 1 (some .int) :: WW) ({ frames := 0, cells := 0, slots := 0, locals := 0 }) (va_Pc [.ref h0] (fun U => U.heap.size = sz ∧ va_P (dC, dI) vwCl [(h0, .inr (0, [.ref a0, .ref a1, .int x0, .int x1, .int x2, .int x3, .int x4, .int x5, .int x6]))] U.heap ∧ va_K (dC, dI) vwCl [(cI, .int), (cZ, .boolean), (cS, .object RX3), (cC, .object RX0)] U ∧ va_D (fun _ => True) [(h0, .inr (0, [.ref a0, .ref a1, .int x0, .int x1, .int x2, .int x3, .int x4, .int x5, .int x6]))])) (va_Qi (fun (_ : Int32) (_ : Unit) => True) (fun (_ : Unit) (_ : State) => True) (va_A [] sz)) 0 0 (va_A [] sz) := by
  refine Met.ofW (cc := cX0_followingStep) (maxL := 1) (ret := (some .int)) (by decide) rfl ?_
  intro p e s m args below meth c s₁ B hml hv
  obtain ⟨rfl, hsz, hP, hK, hD0⟩ := hv
  have hx := B.exec
  have hb := B.bytes
  have hr := B.returns
  have hts := atoms_spec (ws := Cond.code yX0_followingStep cX0_followingStep 1 (some .int) :: WW) B.pre
  have hown : s.vm.findClass RX0 = some m.cls := findClass_of_methodNamed B.named
  have hlocks := B.notSynchronized
  subst hsz
  have hD := hD0
  generalize hAe : va_A [] s.heap.size = A
  have hA : ∀ q : Nat, s.heap.size ≤ q → A q := fun q h => by rw [← hAe]; exact Or.inr h
  have hS : va_S A s.heap s.heap [] := va_S.rf
  have hP : va_P (dC, dI) vwCl [(h0, .inr (0, [.ref a0, .ref a1, .int x0, .int x1, .int x2, .int x3, .int x4, .int x5, .int x6]))] s.heap := hP
  have hl := lv_entry ([.ref h0]) (n := 1) (Nat.le_of_ble_eq_true rfl)
  rw [lg_entry_eq]
  generalize (lg_sl ([.ref h0]) ++ List.replicate (1 - (lg_sl ([.ref h0])).length) Slot.unset).toArray = ls at hl ⊢
  have hl : lv_has ls 1 [(0, .ref h0)] := hl
  refine lv_aload_n hx hb dX0_followingStep_0 rfl (lv_at hl 0 rfl) ?_
  refine va_get (D := (dC, dI)) (ci := 0) (v := .int x2) (C := RX0) (T := TX0) (N := 9) hx hb hts (fun w h => List.mem_cons_of_mem _ (inWX0 w h)) hown hK hP 0 rfl rfl 4 (by decide) (hts _ (List.mem_cons_of_mem _ kw_t1_130)) (fun _ h9 => h9) rfl dX0_followingStep_1 ?_
  rcases kt_sw15 x2 with g_1 | g_1 | g_1 | g_1 | g_1 | g_1
  · refine lv_tableIn (off := 36) (tgt := 40) hx hb dX0_followingStep_4 (by rw [g_1]; decide) (by rw [g_1]; decide) (by rw [g_1]; decide) (by decide) ?_
    refine lv_aload_n hx hb dX0_followingStep_40 rfl (lv_at hl 0 rfl) ?_
    refine va_get (D := (dC, dI)) (ci := 0) (v := .int x6) (C := RX0) (T := TX0) (N := 9) hx hb hts (fun w h => List.mem_cons_of_mem _ (inWX0 w h)) hown hK hP 0 rfl rfl 8 (by decide) (hts _ (List.mem_cons_of_mem _ kw_t1_137)) (fun _ h9 => h9) rfl dX0_followingStep_41 ?_
    refine lv_if_eq (tgt := 51) hx hb dX0_followingStep_44 (by decide) (fun c_2 => ?_) (fun c_2 => ?_)
    · refine lv_iconst (v := 2) hx hb dX0_followingStep_51 (by decide) ?_
      exact W.iret (v := 2) hx hb hr (fun t ht hW => ⟨⟨2, (), rfl, trivial, trivial⟩, hS.F ht⟩) hS.2.2 dX0_followingStep_52
    · refine lv_iconst (v := 4) hx hb dX0_followingStep_47 (by decide) ?_
      refine lv_goto (tgt := 52) hx hb dX0_followingStep_48 (by decide) ?_
      exact W.iret (v := 4) hx hb hr (fun t ht hW => ⟨⟨4, (), rfl, trivial, trivial⟩, hS.F ht⟩) hS.2.2 dX0_followingStep_52
  · refine lv_tableIn (off := 49) (tgt := 53) hx hb dX0_followingStep_4 (by rw [g_1]; decide) (by rw [g_1]; decide) (by rw [g_1]; decide) (by decide) ?_
    refine lv_aload_n hx hb dX0_followingStep_53 rfl (lv_at hl 0 rfl) ?_
    refine va_get (D := (dC, dI)) (ci := 0) (v := .int x6) (C := RX0) (T := TX0) (N := 9) hx hb hts (fun w h => List.mem_cons_of_mem _ (inWX0 w h)) hown hK hP 0 rfl rfl 8 (by decide) (hts _ (List.mem_cons_of_mem _ kw_t1_137)) (fun _ h9 => h9) rfl dX0_followingStep_54 ?_
    refine lv_if_eq (tgt := 64) hx hb dX0_followingStep_57 (by decide) (fun c_3 => ?_) (fun c_3 => ?_)
    · refine lv_iconst (v := 3) hx hb dX0_followingStep_64 (by decide) ?_
      exact W.iret (v := 3) hx hb hr (fun t ht hW => ⟨⟨3, (), rfl, trivial, trivial⟩, hS.F ht⟩) hS.2.2 dX0_followingStep_65
    · refine lv_iconst (v := 0) hx hb dX0_followingStep_60 (by decide) ?_
      refine lv_goto (tgt := 65) hx hb dX0_followingStep_61 (by decide) ?_
      exact W.iret (v := 0) hx hb hr (fun t ht hW => ⟨⟨0, (), rfl, trivial, trivial⟩, hS.F ht⟩) hS.2.2 dX0_followingStep_65
  · refine lv_tableIn (off := 62) (tgt := 66) hx hb dX0_followingStep_4 (by rw [g_1]; decide) (by rw [g_1]; decide) (by rw [g_1]; decide) (by decide) ?_
    refine lv_iconst (v := 4) hx hb dX0_followingStep_66 (by decide) ?_
    exact W.iret (v := 4) hx hb hr (fun t ht hW => ⟨⟨4, (), rfl, trivial, trivial⟩, hS.F ht⟩) hS.2.2 dX0_followingStep_67
  · refine lv_tableIn (off := 64) (tgt := 68) hx hb dX0_followingStep_4 (by rw [g_1]; decide) (by rw [g_1]; decide) (by rw [g_1]; decide) (by decide) ?_
    refine lv_aload_n hx hb dX0_followingStep_68 rfl (lv_at hl 0 rfl) ?_
    refine va_get (D := (dC, dI)) (ci := 0) (v := .int x6) (C := RX0) (T := TX0) (N := 9) hx hb hts (fun w h => List.mem_cons_of_mem _ (inWX0 w h)) hown hK hP 0 rfl rfl 8 (by decide) (hts _ (List.mem_cons_of_mem _ kw_t1_137)) (fun _ h9 => h9) rfl dX0_followingStep_69 ?_
    refine lv_if_eq (tgt := 79) hx hb dX0_followingStep_72 (by decide) (fun c_4 => ?_) (fun c_4 => ?_)
    · refine lv_iconst (v := 0) hx hb dX0_followingStep_79 (by decide) ?_
      exact W.iret (v := 0) hx hb hr (fun t ht hW => ⟨⟨0, (), rfl, trivial, trivial⟩, hS.F ht⟩) hS.2.2 dX0_followingStep_80
    · refine lv_iconst (v := 2) hx hb dX0_followingStep_75 (by decide) ?_
      refine lv_goto (tgt := 80) hx hb dX0_followingStep_76 (by decide) ?_
      exact W.iret (v := 2) hx hb hr (fun t ht hW => ⟨⟨2, (), rfl, trivial, trivial⟩, hS.F ht⟩) hS.2.2 dX0_followingStep_80
  · refine lv_tableIn (off := 77) (tgt := 81) hx hb dX0_followingStep_4 (by rw [g_1]; decide) (by rw [g_1]; decide) (by rw [g_1]; decide) (by decide) ?_
    refine lv_iconst (v := 2) hx hb dX0_followingStep_81 (by decide) ?_
    exact W.iret (v := 2) hx hb hr (fun t ht hW => ⟨⟨2, (), rfl, trivial, trivial⟩, hS.F ht⟩) hS.2.2 dX0_followingStep_82
  · refine lv_tableOut (tgt := 83) hx hb dX0_followingStep_4 g_1 (by decide) ?_
    refine lv_iconst (v := 0) hx hb dX0_followingStep_83 (by decide) ?_
    exact W.iret (v := 0) hx hb hr (fun t ht hW => ⟨⟨0, (), rfl, trivial, trivial⟩, hS.F ht⟩) hS.2.2 dX0_followingStep_84
