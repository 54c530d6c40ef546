set_option maxHeartbeats 4000000 in
set_option maxRecDepth 100000 in
theorem c_X1_markOver (l : Launch) (dC : Nat → ClassId) (dI : Nat → Nat → Nat) (cI cZ cS cC : ClassId) (h0 sz : Nat) (qa : Nat → Nat) (ro : Nat) (bg : Int32) (fl : Nat → Int32) (p0 p1 : Int32) : Met l yX1_markOver (Cond.code yX1_markOver cX1_markOver 3 none :: WW) ({ frames := 1, cells := 0, slots := 0, locals := 30 }) (va_Pc [.ref h0, .int p0, .int p1] (fun U => U.heap.size = sz ∧ va_P (dC, dI) vwCl [(h0, .inr (1, [.ref ro, .int bg])), (ro, .inl (cI, 2500, .inl fl))] U.heap ∧ va_K (dC, dI) vwCl [(cI, .int), (cZ, .boolean), (cS, .object RX3), (cC, .object RX0)] U ∧ va_D (fun _ => True) [(h0, .inr (1, [.ref ro, .int bg])), (ro, .inl (cI, 2500, .inl fl))])) (va_Qv (fun (_ : Int32 × (Nat → Int32)) => True) (fun (u : Int32 × (Nat → Int32)) (t : State) => va_P (dC, dI) vwCl [(h0, .inr (1, [.ref ro, .int u.1])), (ro, .inl (cI, 2500, .inl u.2))] t.heap ∧ va_K (dC, dI) vwCl [(cI, .int), (cZ, .boolean), (cS, .object RX3), (cC, .object RX0)] t ∧ va_D (va_A [(h0, .inr (1, [.ref ro, .int bg])), (ro, .inl (cI, 2500, .inl fl))] sz) [(h0, .inr (1, [.ref ro, .int u.1])), (ro, .inl (cI, 2500, .inl u.2))]) (va_A [(h0, .inr (1, [.ref ro, .int bg])), (ro, .inl (cI, 2500, .inl fl))] sz)) 0 0 (va_A [(h0, .inr (1, [.ref ro, .int bg])), (ro, .inl (cI, 2500, .inl fl))] sz) := by
  refine Met.ofW (cc := cX1_markOver) (maxL := 3) (ret := none) (by decide) rfl ?_
  intro p e s m args below meth c s₁ B hml hv
  obtain ⟨rfl, hsz, hP, hK, hD0⟩ := hv
  have hx := B.exec
  have hb := B.bytes
  have hr := B.returns
  have hts := atoms_spec (ws := Cond.code yX1_markOver cX1_markOver 3 none :: WW) B.pre
  have hown : s.vm.findClass RX1 = some m.cls := findClass_of_methodNamed B.named
  have hlocks := B.notSynchronized
  subst hsz
  have hD := hD0.self (sz := s.heap.size)
  generalize hAe : va_A [(h0, .inr (1, [.ref ro, .int bg])), (ro, .inl (cI, 2500, .inl fl))] s.heap.size = A at hD ⊢
  have hA : ∀ q : Nat, s.heap.size ≤ q → A q := fun q h => by rw [← hAe]; exact Or.inr h
  have hS : va_S A s.heap s.heap [] := va_S.rf
  have hP : va_P (dC, dI) vwCl [(h0, .inr (1, [.ref ro, .int bg])), (ro, .inl (cI, 2500, .inl fl))] s.heap := hP
  have hl := lv_entry ([.ref h0, .int p0, .int p1]) (n := 3) (Nat.le_of_ble_eq_true rfl)
  rw [lg_entry_eq]
  generalize (lg_sl ([.ref h0, .int p0, .int p1]) ++ List.replicate (3 - (lg_sl ([.ref h0, .int p0, .int p1])).length) Slot.unset).toArray = ls at hl ⊢
  have hl : lv_has ls 3 [(0, .ref h0), (1, .int p0), (2, .int p1)] := hl
  refine lv_aload_n hx hb dX1_markOver_0 rfl (lv_at hl 0 rfl) ?_
  refine lv_iload_n hx hb dX1_markOver_1 rfl (lv_at hl 1 rfl) ?_
  have hPc := hP.sub (ws' := [(h0, .inr (1, [.ref ro, .int bg]))]) [0] rfl
  have hDc := hD.sub (ws' := [(h0, .inr (1, [.ref ro, .int bg]))]) [0] (by decide) rfl
  have hFc : ∀ q, va_A ([] : va_W) s.heap.size q → A q := va_free (wc := []) (ws := []) kt_D0 hS hA [] rfl
  refine va_calli (va_runV (As := [.int p0]) (rest := []) ⟨hx, hb, hml, hown, hts⟩ (c_X1_isKept l dC dI cI cZ cS cC h0 s.heap.size (fun _ => 0) ro bg p0) (cwV 1 hts (gV (fun w h => List.mem_cons_of_mem _ h) kw_t2_22 kw_t2_23 kw_t2_24 kw_t1_4 kw_t2_25) rfl rfl rfl (by decide +kernel) ⟨Nat.le_of_ble_eq_true rfl, Nat.le_of_ble_eq_true rfl⟩) ⟨fun a U g mk q => by obtain ⟨q0, q1, qP, qK, qD⟩ := q; exact ⟨q0, q1, qP, va_K.moved (u := U) (U := U.calling g mk a) (Vm.Alike.refl U.vm) qK, qD⟩, va_recv hK hP (ci := 1) (q0 := 0) rfl rfl, fun U hU hW => ⟨rfl, by rw [hU], by rw [hU]; exact hPc, va_K.moved hW.alike hK, hDc.weaken (fun _ _ _ _ => trivial)⟩⟩ rfl rfl hl.1 rfl (lv_room (Nat.le_of_ble_eq_true rfl)) dX1_markOver_2 ⟨Nat.le_of_ble_eq_true rfl, Nat.le_of_ble_eq_true rfl⟩) hS (fun q _ h => hFc q h) hFc (fun r_1 u_1 t H1 locs ht hvm hw_1 hB hz1 hk1 hS => ?_)
  obtain ⟨hP, hD⟩ := va_join (wc := []) (wr := [(h0, .inr (1, [.ref ro, .int bg])), (ro, .inl (cI, 2500, .inl fl))]) (w1 := []) hP hD [] [0, 1] rfl rfl (by decide) (by decide) hk1 hFc kt_P0 kt_D0
  generalize H1 = H at hP hS ⊢
  have hP : va_P (dC, dI) vwCl [(h0, .inr (1, [.ref ro, .int bg])), (ro, .inl (cI, 2500, .inl fl))] H := hP
  have hD : va_D A [(h0, .inr (1, [.ref ro, .int bg])), (ro, .inl (cI, 2500, .inl fl))] := hD
  rcases hw_1 with hw_1h | ⟨hw_1h, hw_1a, hw_1b⟩
  · subst hw_1h
    refine lv_if_eq (tgt := 19) hx hb dX1_markOver_5 (by decide) (fun c_2 => ?_) (fun c_2 => absurd (by decide) c_2)
    exact W.vret hx hb hr (fun t ht hW => ⟨⟨(bg, fl), rfl, trivial, ⟨by rw [ht]; exact hP, va_K.moved hW.alike hK, hD⟩⟩, hS.F ht⟩) hS.2.2 dX1_markOver_19
  · subst hw_1h
    refine lv_if_eq (tgt := 19) hx hb dX1_markOver_5 (by decide) (fun c_3 => absurd c_3 (by decide)) (fun c_3 => ?_)
    refine lv_aload_n hx hb dX1_markOver_8 rfl (lv_at hl 0 rfl) ?_
    refine va_get (D := (dC, dI)) (ci := 1) (v := .ref ro) (C := RX1) (T := TX1) (N := 2) hx hb hts (fun w h => List.mem_cons_of_mem _ (inWX1 w h)) hown hK hP 0 rfl rfl 0 (by decide) (hts _ (List.mem_cons_of_mem _ kw_t1_60)) (fun _ h9 => h9) rfl dX1_markOver_9 ?_
    refine lv_iload_n hx hb dX1_markOver_12 rfl (lv_at hl 1 rfl) ?_
    refine lv_iconst (v := 5) hx hb dX1_markOver_13 (by decide) ?_
    refine lv_imul hx hb dX1_markOver_14 ?_
    refine lv_topi (fun t_4 et_4 => ?_)
    refine lv_iconst (v := 3) hx hb dX1_markOver_15 (by decide) ?_
    refine lv_iadd hx hb dX1_markOver_16 ?_
    refine lv_topi (fun t_5 et_5 => ?_)
    refine lv_iload_n hx hb dX1_markOver_17 rfl (lv_at hl 2 rfl) ?_
    refine va_iast hx hb hK hP hD hS 1 0 rfl rfl (kt_row hw_1a hw_1b 3 (by decide) et_4 et_5) dX1_markOver_18 (fun H locs hP hD hS => ?_)
    obtain ⟨f_6, ef_6⟩ : ∃ f : Nat → Int32, f = upd fl (t_5 : Int32).toNatClampNeg (p1) := ⟨_, rfl⟩
    have hP : va_P (dC, dI) vwCl [(h0, .inr (1, [.ref ro, .int bg])), (ro, .inl (cI, 2500, .inl f_6))] H := by rw [ef_6]; exact hP
    have hD : va_D A [(h0, .inr (1, [.ref ro, .int bg])), (ro, .inl (cI, 2500, .inl f_6))] := by rw [ef_6]; exact hD
    clear ef_6
    exact W.vret hx hb hr (fun t ht hW => ⟨⟨(bg, f_6), rfl, trivial, ⟨by rw [ht]; exact hP, va_K.moved hW.alike hK, hD⟩⟩, hS.F ht⟩) hS.2.2 dX1_markOver_19

set_option maxHeartbeats 4000000 in
set_option maxRecDepth 100000 in
theorem c_X1_markStolen (l : Launch) (dC : Nat → ClassId) (dI : Nat → Nat → Nat) (cI cZ cS cC : ClassId) (h0 sz : Nat) (qa : Nat → Nat) (ro : Nat) (bg : Int32) (fl : Nat → Int32) (p0 : Int32) : Met l yX1_markStolen (Cond.code yX1_markStolen cX1_markStolen 2 none :: WW) ({ frames := 1, cells := 0, slots := 0, locals := 30 }) (va_Pc [.ref h0, .int p0] (fun U => U.heap.size = sz ∧ va_P (dC, dI) vwCl [(h0, .inr (1, [.ref ro, .int bg])), (ro, .inl (cI, 2500, .inl fl))] U.heap ∧ va_K (dC, dI) vwCl [(cI, .int), (cZ, .boolean), (cS, .object RX3), (cC, .object RX0)] U ∧ va_D (fun _ => True) [(h0, .inr (1, [.ref ro, .int bg])), (ro, .inl (cI, 2500, .inl fl))])) (va_Qv (fun (_ : Int32 × (Nat → Int32)) => True) (fun (u : Int32 × (Nat → Int32)) (t : State) => va_P (dC, dI) vwCl [(h0, .inr (1, [.ref ro, .int u.1])), (ro, .inl (cI, 2500, .inl u.2))] t.heap ∧ va_K (dC, dI) vwCl [(cI, .int), (cZ, .boolean), (cS, .object RX3), (cC, .object RX0)] t ∧ va_D (va_A [(h0, .inr (1, [.ref ro, .int bg])), (ro, .inl (cI, 2500, .inl fl))] sz) [(h0, .inr (1, [.ref ro, .int u.1])), (ro, .inl (cI, 2500, .inl u.2))]) (va_A [(h0, .inr (1, [.ref ro, .int bg])), (ro, .inl (cI, 2500, .inl fl))] sz)) 0 0 (va_A [(h0, .inr (1, [.ref ro, .int bg])), (ro, .inl (cI, 2500, .inl fl))] sz) := by
  refine Met.ofW (cc := cX1_markStolen) (maxL := 2) (ret := none) (by decide) rfl ?_
  intro p e s m args below meth c s₁ B hml hv
  obtain ⟨rfl, hsz, hP, hK, hD0⟩ := hv
  have hx := B.exec
  have hb := B.bytes
  have hr := B.returns
  have hts := atoms_spec (ws := Cond.code yX1_markStolen cX1_markStolen 2 none :: WW) B.pre
  have hown : s.vm.findClass RX1 = some m.cls := findClass_of_methodNamed B.named
  have hlocks := B.notSynchronized
  subst hsz
  have hD := hD0.self (sz := s.heap.size)
  generalize hAe : va_A [(h0, .inr (1, [.ref ro, .int bg])), (ro, .inl (cI, 2500, .inl fl))] s.heap.size = A at hD ⊢
  have hA : ∀ q : Nat, s.heap.size ≤ q → A q := fun q h => by rw [← hAe]; exact Or.inr h
  have hS : va_S A s.heap s.heap [] := va_S.rf
  have hP : va_P (dC, dI) vwCl [(h0, .inr (1, [.ref ro, .int bg])), (ro, .inl (cI, 2500, .inl fl))] s.heap := hP
  have hl := lv_entry ([.ref h0, .int p0]) (n := 2) (Nat.le_of_ble_eq_true rfl)
  rw [lg_entry_eq]
  generalize (lg_sl ([.ref h0, .int p0]) ++ List.replicate (2 - (lg_sl ([.ref h0, .int p0])).length) Slot.unset).toArray = ls at hl ⊢
  have hl : lv_has ls 2 [(0, .ref h0), (1, .int p0)] := hl
  refine lv_aload_n hx hb dX1_markStolen_0 rfl (lv_at hl 0 rfl) ?_
  refine lv_iload_n hx hb dX1_markStolen_1 rfl (lv_at hl 1 rfl) ?_
  have hPc := hP.sub (ws' := [(h0, .inr (1, [.ref ro, .int bg]))]) [0] rfl
  have hDc := hD.sub (ws' := [(h0, .inr (1, [.ref ro, .int bg]))]) [0] (by decide) rfl
  have hFc : ∀ q, va_A ([] : va_W) s.heap.size q → A q := va_free (wc := []) (ws := []) kt_D0 hS hA [] rfl
  refine va_calli (va_runV (As := [.int p0]) (rest := []) ⟨hx, hb, hml, hown, hts⟩ (c_X1_isKept l dC dI cI cZ cS cC h0 s.heap.size (fun _ => 0) ro bg p0) (cwV 1 hts (gV (fun w h => List.mem_cons_of_mem _ h) kw_t2_22 kw_t2_23 kw_t2_24 kw_t1_4 kw_t2_25) rfl rfl rfl (by decide +kernel) ⟨Nat.le_of_ble_eq_true rfl, Nat.le_of_ble_eq_true rfl⟩) ⟨fun a U g mk q => by obtain ⟨q0, q1, qP, qK, qD⟩ := q; exact ⟨q0, q1, qP, va_K.moved (u := U) (U := U.calling g mk a) (Vm.Alike.refl U.vm) qK, qD⟩, va_recv hK hP (ci := 1) (q0 := 0) rfl rfl, fun U hU hW => ⟨rfl, by rw [hU], by rw [hU]; exact hPc, va_K.moved hW.alike hK, hDc.weaken (fun _ _ _ _ => trivial)⟩⟩ rfl rfl hl.1 rfl (lv_room (Nat.le_of_ble_eq_true rfl)) dX1_markStolen_2 ⟨Nat.le_of_ble_eq_true rfl, Nat.le_of_ble_eq_true rfl⟩) hS (fun q _ h => hFc q h) hFc (fun r_1 u_1 t H1 locs ht hvm hw_1 hB hz1 hk1 hS => ?_)
  obtain ⟨hP, hD⟩ := va_join (wc := []) (wr := [(h0, .inr (1, [.ref ro, .int bg])), (ro, .inl (cI, 2500, .inl fl))]) (w1 := []) hP hD [] [0, 1] rfl rfl (by decide) (by decide) hk1 hFc kt_P0 kt_D0
  generalize H1 = H at hP hS ⊢
  have hP : va_P (dC, dI) vwCl [(h0, .inr (1, [.ref ro, .int bg])), (ro, .inl (cI, 2500, .inl fl))] H := hP
  have hD : va_D A [(h0, .inr (1, [.ref ro, .int bg])), (ro, .inl (cI, 2500, .inl fl))] := hD
  rcases hw_1 with hw_1h | ⟨hw_1h, hw_1a, hw_1b⟩
  · subst hw_1h
    refine lv_if_eq (tgt := 19) hx hb dX1_markStolen_5 (by decide) (fun c_2 => ?_) (fun c_2 => absurd (by decide) c_2)
    exact W.vret hx hb hr (fun t ht hW => ⟨⟨(bg, fl), rfl, trivial, ⟨by rw [ht]; exact hP, va_K.moved hW.alike hK, hD⟩⟩, hS.F ht⟩) hS.2.2 dX1_markStolen_19
  · subst hw_1h
    refine lv_if_eq (tgt := 19) hx hb dX1_markStolen_5 (by decide) (fun c_3 => absurd c_3 (by decide)) (fun c_3 => ?_)
    refine lv_aload_n hx hb dX1_markStolen_8 rfl (lv_at hl 0 rfl) ?_
    refine va_get (D := (dC, dI)) (ci := 1) (v := .ref ro) (C := RX1) (T := TX1) (N := 2) hx hb hts (fun w h => List.mem_cons_of_mem _ (inWX1 w h)) hown hK hP 0 rfl rfl 0 (by decide) (hts _ (List.mem_cons_of_mem _ kw_t1_60)) (fun _ h9 => h9) rfl dX1_markStolen_9 ?_
    refine lv_iload_n hx hb dX1_markStolen_12 rfl (lv_at hl 1 rfl) ?_
    refine lv_iconst (v := 5) hx hb dX1_markStolen_13 (by decide) ?_
    refine lv_imul hx hb dX1_markStolen_14 ?_
    refine lv_topi (fun t_4 et_4 => ?_)
    refine lv_iconst (v := 4) hx hb dX1_markStolen_15 (by decide) ?_
    refine lv_iadd hx hb dX1_markStolen_16 ?_
    refine lv_topi (fun t_5 et_5 => ?_)
    refine lv_iconst (v := 1) hx hb dX1_markStolen_17 (by decide) ?_
    refine va_iast hx hb hK hP hD hS 1 0 rfl rfl (kt_row hw_1a hw_1b 4 (by decide) et_4 et_5) dX1_markStolen_18 (fun H locs hP hD hS => ?_)
    obtain ⟨f_6, ef_6⟩ : ∃ f : Nat → Int32, f = upd fl (t_5 : Int32).toNatClampNeg (1) := ⟨_, rfl⟩
    have hP : va_P (dC, dI) vwCl [(h0, .inr (1, [.ref ro, .int bg])), (ro, .inl (cI, 2500, .inl f_6))] H := by rw [ef_6]; exact hP
    have hD : va_D A [(h0, .inr (1, [.ref ro, .int bg])), (ro, .inl (cI, 2500, .inl f_6))] := by rw [ef_6]; exact hD
    clear ef_6
    exact W.vret hx hb hr (fun t ht hW => ⟨⟨(bg, f_6), rfl, trivial, ⟨by rw [ht]; exact hP, va_K.moved hW.alike hK, hD⟩⟩, hS.F ht⟩) hS.2.2 dX1_markStolen_19

set_option maxHeartbeats 4000000 in
set_option maxRecDepth 100000 in
theorem c_X1_add (l : Launch) (dC : Nat → ClassId) (dI : Nat → Nat → Nat) (cI cZ cS cC : ClassId) (h0 sz : Nat) (qa : Nat → Nat) (ro : Nat) (bg : Int32) (fl : Nat → Int32) (p0 p1 p2 p3 : Int32) : Met l yX1_add (Cond.code yX1_add cX1_add 7 (some .int) :: WW) ({ frames := 1, cells := 0, slots := 0, locals := 30 }) (va_Pc [.ref h0, .int p0, .int p1, .int p2, .int p3] (fun U => U.heap.size = sz ∧ va_P (dC, dI) vwCl [(h0, .inr (1, [.ref ro, .int bg])), (ro, .inl (cI, 2500, .inl fl))] U.heap ∧ va_K (dC, dI) vwCl [(cI, .int), (cZ, .boolean), (cS, .object RX3), (cC, .object RX0)] U ∧ va_D (fun _ => True) [(h0, .inr (1, [.ref ro, .int bg])), (ro, .inl (cI, 2500, .inl fl))])) (va_Qi (fun (_ : Int32) (_ : Int32 × (Nat → Int32)) => True) (fun (u : Int32 × (Nat → Int32)) (t : State) => va_P (dC, dI) vwCl [(h0, .inr (1, [.ref ro, .int u.1])), (ro, .inl (cI, 2500, .inl u.2))] t.heap ∧ va_K (dC, dI) vwCl [(cI, .int), (cZ, .boolean), (cS, .object RX3), (cC, .object RX0)] t ∧ va_D (va_A [(h0, .inr (1, [.ref ro, .int bg])), (ro, .inl (cI, 2500, .inl fl))] sz) [(h0, .inr (1, [.ref ro, .int u.1])), (ro, .inl (cI, 2500, .inl u.2))]) (va_A [(h0, .inr (1, [.ref ro, .int bg])), (ro, .inl (cI, 2500, .inl fl))] sz)) 0 0 (va_A [(h0, .inr (1, [.ref ro, .int bg])), (ro, .inl (cI, 2500, .inl fl))] sz) := by
  refine Met.ofW (cc := cX1_add) (maxL := 7) (ret := (some .int)) (by decide) rfl ?_
  intro p e s m args below meth c s₁ B hml hv
  obtain ⟨rfl, hsz, hP, hK, hD0⟩ := hv
  have hx := B.exec
  have hb := B.bytes
  have hr := B.returns
  have hts := atoms_spec (ws := Cond.code yX1_add cX1_add 7 (some .int) :: WW) B.pre
  have hown : s.vm.findClass RX1 = some m.cls := findClass_of_methodNamed B.named
  have hlocks := B.notSynchronized
  subst hsz
  have hD := hD0.self (sz := s.heap.size)
  generalize hAe : va_A [(h0, .inr (1, [.ref ro, .int bg])), (ro, .inl (cI, 2500, .inl fl))] s.heap.size = A at hD ⊢
  have hA : ∀ q : Nat, s.heap.size ≤ q → A q := fun q h => by rw [← hAe]; exact Or.inr h
  have hS : va_S A s.heap s.heap [] := va_S.rf
  have hP : va_P (dC, dI) vwCl [(h0, .inr (1, [.ref ro, .int bg])), (ro, .inl (cI, 2500, .inl fl))] s.heap := hP
  have hl := lv_entry ([.ref h0, .int p0, .int p1, .int p2, .int p3]) (n := 7) (Nat.le_of_ble_eq_true rfl)
  rw [lg_entry_eq]
  generalize (lg_sl ([.ref h0, .int p0, .int p1, .int p2, .int p3]) ++ List.replicate (7 - (lg_sl ([.ref h0, .int p0, .int p1, .int p2, .int p3])).length) Slot.unset).toArray = ls at hl ⊢
  have hl : lv_has ls 7 [(0, .ref h0), (1, .int p0), (2, .int p1), (3, .int p2), (4, .int p3)] := hl
  refine lv_aload_n hx hb dX1_add_0 rfl (lv_at hl 0 rfl) ?_
  refine va_get (D := (dC, dI)) (ci := 1) (v := .int bg) (C := RX1) (T := TX1) (N := 2) hx hb hts (fun w h => List.mem_cons_of_mem _ (inWX1 w h)) hown hK hP 0 rfl rfl 1 (by decide) (hts _ (List.mem_cons_of_mem _ kw_t1_62)) (fun _ h9 => h9) rfl dX1_add_1 ?_
  refine lv_istore (lv' := [(5, .int bg), (0, .ref h0), (1, .int p0), (2, .int p1), (3, .int p2), (4, .int p3)]) hx hb dX1_add_4 hl (by decide) rfl (fun ls hl => ?_)
  refine lv_aload_n hx hb dX1_add_6 rfl (lv_at hl 1 rfl) ?_
  refine lv_dup hx hb dX1_add_7 rfl ?_
  refine va_get (D := (dC, dI)) (ci := 1) (v := .int bg) (C := RX1) (T := TX1) (N := 2) hx hb hts (fun w h => List.mem_cons_of_mem _ (inWX1 w h)) hown hK hP 0 rfl rfl 1 (by decide) (hts _ (List.mem_cons_of_mem _ kw_t1_62)) (fun _ h9 => h9) rfl dX1_add_8 ?_
  refine lv_iconst (v := 1) hx hb dX1_add_11 (by decide) ?_
  refine lv_iadd hx hb dX1_add_12 ?_
  refine lv_topi (fun t_1 et_1 => ?_)
  refine va_put (D := (dC, dI)) (ci := 1) (v := .int t_1) (ty := .int) (C := RX1) (T := TX1) (N := 2) hx hb hts (fun w h => List.mem_cons_of_mem _ (inWX1 w h)) tyX1 tyX1_ok nmX1 hown hK hP hD hS 0 rfl rfl 1 (by decide) (hts _ (List.mem_cons_of_mem _ kw_t1_62)) (fun _ h9 => h9) rfl (by decide +kernel) rfl rfl (Nat.le_of_ble_eq_true rfl) dX1_add_13 (fun H locs hP hD hS => ?_)
  have hP : va_P (dC, dI) vwCl [(h0, .inr (1, [.ref ro, .int t_1])), (ro, .inl (cI, 2500, .inl fl))] H := hP
  have hD : va_D A [(h0, .inr (1, [.ref ro, .int t_1])), (ro, .inl (cI, 2500, .inl fl))] := hD
  refine lv_aload_n hx hb dX1_add_16 rfl (lv_at hl 1 rfl) ?_
  refine lv_iload hx hb dX1_add_17 (lv_at hl 0 rfl) ?_
  have hPc := hP.sub (ws' := [(h0, .inr (1, [.ref ro, .int t_1]))]) [0] rfl
  have hDc := hD.sub (ws' := [(h0, .inr (1, [.ref ro, .int t_1]))]) [0] (by decide) rfl
  have hFc : ∀ q, va_A ([] : va_W) H.size q → A q := va_free (wc := []) (ws := []) kt_D0 hS hA [] rfl
  refine va_calli (va_runV (As := [.int bg]) (rest := []) ⟨hx, hb, hml, hown, hts⟩ (c_X1_isKept l dC dI cI cZ cS cC h0 H.size (fun _ => 0) ro t_1 bg) (cwV 1 hts (gV (fun w h => List.mem_cons_of_mem _ h) kw_t2_22 kw_t2_23 kw_t2_24 kw_t1_4 kw_t2_25) rfl rfl rfl (by decide +kernel) ⟨Nat.le_of_ble_eq_true rfl, Nat.le_of_ble_eq_true rfl⟩) ⟨fun a U g mk q => by obtain ⟨q0, q1, qP, qK, qD⟩ := q; exact ⟨q0, q1, qP, va_K.moved (u := U) (U := U.calling g mk a) (Vm.Alike.refl U.vm) qK, qD⟩, va_recv hK hP (ci := 1) (q0 := 0) rfl rfl, fun U hU hW => ⟨rfl, by rw [hU], by rw [hU]; exact hPc, va_K.moved hW.alike hK, hDc.weaken (fun _ _ _ _ => trivial)⟩⟩ rfl rfl hl.1 rfl (lv_room (Nat.le_of_ble_eq_true rfl)) dX1_add_19 ⟨Nat.le_of_ble_eq_true rfl, Nat.le_of_ble_eq_true rfl⟩) hS (fun q _ h => hFc q h) hFc (fun r_2 u_2 t H1 locs ht hvm hw_2 hB hz1 hk1 hS => ?_)
  obtain ⟨hP, hD⟩ := va_join (wc := []) (wr := [(h0, .inr (1, [.ref ro, .int t_1])), (ro, .inl (cI, 2500, .inl fl))]) (w1 := []) hP hD [] [0, 1] rfl rfl (by decide) (by decide) hk1 hFc kt_P0 kt_D0
  generalize H1 = H at hP hS ⊢
  have hP : va_P (dC, dI) vwCl [(h0, .inr (1, [.ref ro, .int t_1])), (ro, .inl (cI, 2500, .inl fl))] H := hP
  have hD : va_D A [(h0, .inr (1, [.ref ro, .int t_1])), (ro, .inl (cI, 2500, .inl fl))] := hD
  rcases hw_2 with hw_2h | ⟨hw_2h, hw_2a, hw_2b⟩
  · subst hw_2h
    refine lv_if_eq (tgt := 90) hx hb dX1_add_22 (by decide) (fun c_3 => ?_) (fun c_3 => absurd (by decide) c_3)
    refine lv_iload hx hb dX1_add_90 (lv_at hl 0 rfl) ?_
    exact W.iret (v := bg) hx hb hr (fun t ht hW => ⟨⟨bg, (t_1, fl), rfl, trivial, ⟨by rw [ht]; exact hP, va_K.moved hW.alike hK, hD⟩⟩, hS.F ht⟩) hS.2.2 dX1_add_92
  · subst hw_2h
    refine lv_if_eq (tgt := 90) hx hb dX1_add_22 (by decide) (fun c_4 => absurd c_4 (by decide)) (fun c_4 => ?_)
    refine lv_iload hx hb dX1_add_25 (lv_at hl 0 rfl) ?_
    refine lv_iconst (v := 5) hx hb dX1_add_27 (by decide) ?_
    refine lv_imul hx hb dX1_add_28 ?_
    refine lv_topi (fun t_5 et_5 => ?_)
    refine lv_istore (lv' := [(6, .int t_5), (5, .int bg), (0, .ref h0), (1, .int p0), (2, .int p1), (3, .int p2), (4, .int p3)]) hx hb dX1_add_29 hl (by decide) rfl (fun ls hl => ?_)
    refine lv_aload_n hx hb dX1_add_31 rfl (lv_at hl 2 rfl) ?_
    refine va_get (D := (dC, dI)) (ci := 1) (v := .ref ro) (C := RX1) (T := TX1) (N := 2) hx hb hts (fun w h => List.mem_cons_of_mem _ (inWX1 w h)) hown hK hP 0 rfl rfl 0 (by decide) (hts _ (List.mem_cons_of_mem _ kw_t1_60)) (fun _ h9 => h9) rfl dX1_add_32 ?_
    refine lv_iload hx hb dX1_add_35 (lv_at hl 0 rfl) ?_
    refine lv_iconst (v := 0) hx hb dX1_add_37 (by decide) ?_
    refine lv_iadd hx hb dX1_add_38 ?_
    refine lv_topi (fun t_6 et_6 => ?_)
    refine lv_iload_n hx hb dX1_add_39 rfl (lv_at hl 3 rfl) ?_
    refine va_iast hx hb hK hP hD hS 1 0 rfl rfl (kt_row hw_2a hw_2b 0 (by decide) et_5 et_6) dX1_add_40 (fun H locs hP hD hS => ?_)
    obtain ⟨f_7, ef_7⟩ : ∃ f : Nat → Int32, f = upd fl (t_6 : Int32).toNatClampNeg (p0) := ⟨_, rfl⟩
    have hP : va_P (dC, dI) vwCl [(h0, .inr (1, [.ref ro, .int t_1])), (ro, .inl (cI, 2500, .inl f_7))] H := by rw [ef_7]; exact hP
    have hD : va_D A [(h0, .inr (1, [.ref ro, .int t_1])), (ro, .inl (cI, 2500, .inl f_7))] := by rw [ef_7]; exact hD
    clear ef_7
    refine lv_aload_n hx hb dX1_add_41 rfl (lv_at hl 2 rfl) ?_
    refine va_get (D := (dC, dI)) (ci := 1) (v := .ref ro) (C := RX1) (T := TX1) (N := 2) hx hb hts (fun w h => List.mem_cons_of_mem _ (inWX1 w h)) hown hK hP 0 rfl rfl 0 (by decide) (hts _ (List.mem_cons_of_mem _ kw_t1_60)) (fun _ h9 => h9) rfl dX1_add_42 ?_
    refine lv_iload hx hb dX1_add_45 (lv_at hl 0 rfl) ?_
    refine lv_iconst (v := 1) hx hb dX1_add_47 (by decide) ?_
    refine lv_iadd hx hb dX1_add_48 ?_
    refine lv_topi (fun t_8 et_8 => ?_)
    refine lv_iload_n hx hb dX1_add_49 rfl (lv_at hl 4 rfl) ?_
    refine va_iast hx hb hK hP hD hS 1 0 rfl rfl (kt_row hw_2a hw_2b 1 (by decide) et_5 et_8) dX1_add_50 (fun H locs hP hD hS => ?_)
    obtain ⟨f_9, ef_9⟩ : ∃ f : Nat → Int32, f = upd f_7 (t_8 : Int32).toNatClampNeg (p1) := ⟨_, rfl⟩
    have hP : va_P (dC, dI) vwCl [(h0, .inr (1, [.ref ro, .int t_1])), (ro, .inl (cI, 2500, .inl f_9))] H := by rw [ef_9]; exact hP
    have hD : va_D A [(h0, .inr (1, [.ref ro, .int t_1])), (ro, .inl (cI, 2500, .inl f_9))] := by rw [ef_9]; exact hD
    clear ef_9
    refine lv_aload_n hx hb dX1_add_51 rfl (lv_at hl 2 rfl) ?_
    refine va_get (D := (dC, dI)) (ci := 1) (v := .ref ro) (C := RX1) (T := TX1) (N := 2) hx hb hts (fun w h => List.mem_cons_of_mem _ (inWX1 w h)) hown hK hP 0 rfl rfl 0 (by decide) (hts _ (List.mem_cons_of_mem _ kw_t1_60)) (fun _ h9 => h9) rfl dX1_add_52 ?_
    refine lv_iload hx hb dX1_add_55 (lv_at hl 0 rfl) ?_
    refine lv_iconst (v := 2) hx hb dX1_add_57 (by decide) ?_
    refine lv_iadd hx hb dX1_add_58 ?_
    refine lv_topi (fun t_10 et_10 => ?_)
    refine lv_iload_n hx hb dX1_add_59 rfl (lv_at hl 5 rfl) ?_
    refine va_iast hx hb hK hP hD hS 1 0 rfl rfl (kt_row hw_2a hw_2b 2 (by decide) et_5 et_10) dX1_add_60 (fun H locs hP hD hS => ?_)
    obtain ⟨f_11, ef_11⟩ : ∃ f : Nat → Int32, f = upd f_9 (t_10 : Int32).toNatClampNeg (p2) := ⟨_, rfl⟩
    have hP : va_P (dC, dI) vwCl [(h0, .inr (1, [.ref ro, .int t_1])), (ro, .inl (cI, 2500, .inl f_11))] H := by rw [ef_11]; exact hP
    have hD : va_D A [(h0, .inr (1, [.ref ro, .int t_1])), (ro, .inl (cI, 2500, .inl f_11))] := by rw [ef_11]; exact hD
    clear ef_11
    refine lv_aload_n hx hb dX1_add_61 rfl (lv_at hl 2 rfl) ?_
    refine va_get (D := (dC, dI)) (ci := 1) (v := .ref ro) (C := RX1) (T := TX1) (N := 2) hx hb hts (fun w h => List.mem_cons_of_mem _ (inWX1 w h)) hown hK hP 0 rfl rfl 0 (by decide) (hts _ (List.mem_cons_of_mem _ kw_t1_60)) (fun _ h9 => h9) rfl dX1_add_62 ?_
    refine lv_iload hx hb dX1_add_65 (lv_at hl 0 rfl) ?_
    refine lv_iconst (v := 3) hx hb dX1_add_67 (by decide) ?_
    refine lv_iadd hx hb dX1_add_68 ?_
    refine lv_topi (fun t_12 et_12 => ?_)
    refine lv_iconst (v := (-1)) hx hb dX1_add_69 (by decide) ?_
    refine va_iast hx hb hK hP hD hS 1 0 rfl rfl (kt_row hw_2a hw_2b 3 (by decide) et_5 et_12) dX1_add_70 (fun H locs hP hD hS => ?_)
    obtain ⟨f_13, ef_13⟩ : ∃ f : Nat → Int32, f = upd f_11 (t_12 : Int32).toNatClampNeg ((-1)) := ⟨_, rfl⟩
    have hP : va_P (dC, dI) vwCl [(h0, .inr (1, [.ref ro, .int t_1])), (ro, .inl (cI, 2500, .inl f_13))] H := by rw [ef_13]; exact hP
    have hD : va_D A [(h0, .inr (1, [.ref ro, .int t_1])), (ro, .inl (cI, 2500, .inl f_13))] := by rw [ef_13]; exact hD
    clear ef_13
    refine lv_aload_n hx hb dX1_add_71 rfl (lv_at hl 2 rfl) ?_
    refine va_get (D := (dC, dI)) (ci := 1) (v := .ref ro) (C := RX1) (T := TX1) (N := 2) hx hb hts (fun w h => List.mem_cons_of_mem _ (inWX1 w h)) hown hK hP 0 rfl rfl 0 (by decide) (hts _ (List.mem_cons_of_mem _ kw_t1_60)) (fun _ h9 => h9) rfl dX1_add_72 ?_
    refine lv_iload hx hb dX1_add_75 (lv_at hl 0 rfl) ?_
    refine lv_iconst (v := 4) hx hb dX1_add_77 (by decide) ?_
    refine lv_iadd hx hb dX1_add_78 ?_
    refine lv_topi (fun t_14 et_14 => ?_)
    refine lv_iload hx hb dX1_add_79 (lv_at hl 6 rfl) ?_
    refine lv_if_eq (tgt := 88) hx hb dX1_add_81 (by decide) (fun c_15 => ?_) (fun c_15 => ?_)
    · refine lv_iconst (v := 0) hx hb dX1_add_88 (by decide) ?_
      refine va_iast hx hb hK hP hD hS 1 0 rfl rfl (kt_row hw_2a hw_2b 4 (by decide) et_5 et_14) dX1_add_89 (fun H locs hP hD hS => ?_)
      obtain ⟨f_16, ef_16⟩ : ∃ f : Nat → Int32, f = upd f_13 (t_14 : Int32).toNatClampNeg (0) := ⟨_, rfl⟩
      have hP : va_P (dC, dI) vwCl [(h0, .inr (1, [.ref ro, .int t_1])), (ro, .inl (cI, 2500, .inl f_16))] H := by rw [ef_16]; exact hP
      have hD : va_D A [(h0, .inr (1, [.ref ro, .int t_1])), (ro, .inl (cI, 2500, .inl f_16))] := by rw [ef_16]; exact hD
      clear ef_16
      refine lv_iload hx hb dX1_add_90 (lv_at hl 1 rfl) ?_
      exact W.iret (v := bg) hx hb hr (fun t ht hW => ⟨⟨bg, (t_1, f_16), rfl, trivial, ⟨by rw [ht]; exact hP, va_K.moved hW.alike hK, hD⟩⟩, hS.F ht⟩) hS.2.2 dX1_add_92
    · refine lv_iconst (v := 1) hx hb dX1_add_84 (by decide) ?_
      refine lv_goto (tgt := 89) hx hb dX1_add_85 (by decide) ?_
      refine va_iast hx hb hK hP hD hS 1 0 rfl rfl (kt_row hw_2a hw_2b 4 (by decide) et_5 et_14) dX1_add_89 (fun H locs hP hD hS => ?_)
      obtain ⟨f_17, ef_17⟩ : ∃ f : Nat → Int32, f = upd f_13 (t_14 : Int32).toNatClampNeg (1) := ⟨_, rfl⟩
      have hP : va_P (dC, dI) vwCl [(h0, .inr (1, [.ref ro, .int t_1])), (ro, .inl (cI, 2500, .inl f_17))] H := by rw [ef_17]; exact hP
      have hD : va_D A [(h0, .inr (1, [.ref ro, .int t_1])), (ro, .inl (cI, 2500, .inl f_17))] := by rw [ef_17]; exact hD
      clear ef_17
      refine lv_iload hx hb dX1_add_90 (lv_at hl 1 rfl) ?_
      exact W.iret (v := bg) hx hb hr (fun t ht hW => ⟨⟨bg, (t_1, f_17), rfl, trivial, ⟨by rw [ht]; exact hP, va_K.moved hW.alike hK, hD⟩⟩, hS.F ht⟩) hS.2.2 dX1_add_92
