set_option maxHeartbeats 4000000 in
set_option maxRecDepth 100000 in
theorem c_X6_isChecker (l : Launch) (dC : Nat → ClassId) (dI : Nat → Nat → Nat) (cI cZ cS cC cJ : ClassId) (a : Nat → Nat) (v : Nat → Nat → Int32) (sz : Nat) (p0 p1 : Int32) (hD : mDD a) (gn : Nat) (hn : gn < 200000) (hB : rB gn v v) : Met l yX6_isChecker (Cond.code yX6_isChecker cX6_isChecker 3 (some .boolean) :: WW) ({ frames := 1, cells := 0, slots := 0, locals := 30 }) (va_Pc [.ref (a 45), .int p0, .int p1] (fun U => U.heap.size = sz ∧ va_P (dC, dI) vwCl (mW cI cZ cS cC cJ a v) U.heap ∧ va_K (dC, dI) vwCl [(cI, .int), (cZ, .boolean), (cS, .object RX3), (cC, .object RX0), (cJ, .long)] U ∧ mN U)) (va_Qi (fun (r : Int32) (_u : Unit) => (r = 0 ∨ (r = 1 ∧ (∃ i, i < 12 ∧ p1 = nI i) ∧ ∃ i, i < 6 ∧ p0 = nI i))) (fun (_ : Unit) (t : State) => va_P (dC, dI) vwCl (mW cI cZ cS cC cJ a v) t.heap) (mA a sz)) 0 0 (mA a sz) := by
  refine Met.ofW (cc := cX6_isChecker) (maxL := 3) (ret := (some .boolean)) (by decide) rfl ?_
  intro p e s m args below meth c s₁ B hml hv
  obtain ⟨rfl, hsz, hP, hK, hN⟩ := hv
  have hx := B.exec
  have hb := B.bytes
  have hr := B.returns
  have hts := atoms_spec (ws := Cond.code yX6_isChecker cX6_isChecker 3 (some .boolean) :: WW) B.pre
  have hown : s.vm.findClass RX6 = some m.cls := findClass_of_methodNamed B.named
  have hlocks := B.notSynchronized
  subst hsz
  have hAc : ∀ c, c < 81 → mA a s.heap.size (a c) := fun c h => Or.inl ⟨c, h, rfl⟩
  have hA : ∀ q : Nat, s.heap.size ≤ q → mA a s.heap.size q := fun q h => Or.inr h
  generalize hAe : mA a s.heap.size = A at hAc hA ⊢
  have hS : va_S A s.heap s.heap [] := va_S.rf
  have hl := lv_entry ([.ref (a 45), .int p0, .int p1]) (n := 3) (Nat.le_of_ble_eq_true rfl)
  rw [lg_entry_eq]
  generalize (lg_sl ([.ref (a 45), .int p0, .int p1]) ++ List.replicate (3 - (lg_sl ([.ref (a 45), .int p0, .int p1])).length) Slot.unset).toArray = ls at hl ⊢
  have hl : lv_has ls 3 [(0, .ref (a 45)), (1, .int p0), (2, .int p1)] := hl
  refine lv_aload_n hx hb dX6_isChecker_0 rfl (lv_at hl 0 rfl) ?_
  refine lv_iload_n hx hb dX6_isChecker_1 rfl (lv_at hl 2 rfl) ?_
  have hFc := mA_free (a := a) hS hA hAc
  refine va_calli (va_runV (As := [.int p1]) (rest := []) ⟨hx, hb, hml, hown, hts⟩ (c_X6_isSecret l dC dI cI cZ cS cC cJ a v s.heap.size p1 hD gn (by omega) hB.self) (cwV 1 hts (gV (fun w h => List.mem_cons_of_mem _ h) kw_t3_183 kw_t3_185 kw_s0_12 kw_t1_7 kw_t3_186) rfl rfl rfl (by decide +kernel) ⟨Nat.le_of_ble_eq_true rfl, Nat.le_of_ble_eq_true rfl⟩) ⟨fun av U g mk q => by obtain ⟨q0, q1, qP, qK, qN⟩ := q; exact ⟨q0, q1, qP, va_K.moved (u := U) (U := U.calling g mk av) (Vm.Alike.refl U.vm) qK, mN_same qN⟩, va_recv hK hP (ci := 6) (q0 := 45) rfl at_45, fun U hU hW => ⟨rfl, by rw [hU], by rw [hU]; exact hP, va_K.moved hW.alike hK, mN_warm hW hN⟩⟩ rfl rfl hl.1 rfl (lv_room (Nat.le_of_ble_eq_true rfl)) dX6_isChecker_2 ⟨Nat.le_of_ble_eq_true rfl, Nat.le_of_ble_eq_true rfl⟩) hS (fun q _ h => hFc q h) hFc (fun r_1 _ t H locs ht hvm hw_1 hP _ _ hS => ?_)
  have hP := kt_heap2 ht hP
  clear ht hFc
  have hP : va_P (dC, dI) vwCl (mW cI cZ cS cC cJ a v) H := hP
  rcases hw_1 with ⟨hz_2, hns_2⟩ | ⟨hz_2, ix_2, hx_2, ex_2, hlt_2⟩
  · subst hz_2
    refine lv_if_eq (tgt := 34) hx hb dX6_isChecker_5 (by decide) (fun c_3 => ?_) (fun c_3 => absurd (by decide) c_3)
    refine lv_iconst (v := 0) hx hb dX6_isChecker_34 (by decide) ?_
    exact W.zret (v := 0) (ty := .boolean) hx hb hr rfl (fun t ht hW => ⟨⟨0, (), rfl, (Or.inl rfl), kt_heap ht hP⟩, hS.F ht⟩) hS.2.2 dX6_isChecker_35
  · subst hz_2
    refine lv_if_eq (tgt := 34) hx hb dX6_isChecker_5 (by decide) (fun c_4 => absurd c_4 (by decide)) (fun c_4 => ?_)
    refine lv_iload_n hx hb dX6_isChecker_8 rfl (lv_at hl 1 rfl) ?_
    refine lv_iconst (v := 0) hx hb dX6_isChecker_9 (by decide) ?_
    refine lv_iconst (v := 5) hx hb dX6_isChecker_10 (by decide) ?_
    have hFc := mA_free (a := a) hS hA hAc
    refine va_calli (va_runS (As := [.int p0, .int 0, .int 5]) (rest := []) ⟨hx, hb, hml, hown, hts⟩ (c_X6_isIn l dC dI cI cZ cS cC cJ a v H.size p0 0 5 hD gn (by omega) hB.self) (va_cwS 3 hts (gS (fun w h => List.mem_cons_of_mem _ h) kw_t3_176 kw_t3_177 kw_t1_7 kw_t3_178) rfl rfl rfl (by decide +kernel) ⟨Nat.le_of_ble_eq_true rfl, Nat.le_of_ble_eq_true rfl⟩) ⟨fun av U g mk q => by obtain ⟨q0, q1, qP, qK, qN⟩ := q; exact ⟨q0, q1, qP, va_K.moved (u := U) (U := U.calling g mk av) (Vm.Alike.refl U.vm) qK, mN_same qN⟩, fun U hU hW => ⟨rfl, by rw [hU], by rw [hU]; exact hP, va_K.moved hW.alike hK, mN_warm hW hN⟩⟩ rfl rfl hl.1 rfl (lv_room (Nat.le_of_ble_eq_true rfl)) dX6_isChecker_11 ⟨Nat.le_of_ble_eq_true rfl, Nat.le_of_ble_eq_true rfl⟩) hS (fun q _ h => hFc q h) hFc (fun r_5 _ t H locs ht hvm hw_5 hP _ _ hS => ?_)
    have hP := kt_heap2 ht hP
    clear ht hFc
    have hP : va_P (dC, dI) vwCl (mW cI cZ cS cC cJ a v) H := hP
    rcases hw_5 with ⟨hz_6, c_6a, c_6b⟩ | ⟨hz_6, c_6d⟩
    · subst hz_6
      refine lv_if_eq (tgt := 34) hx hb dX6_isChecker_14 (by decide) (fun c_7 => absurd c_7 (by decide)) (fun c_7 => ?_)
      refine lv_aload_n hx hb dX6_isChecker_17 rfl (lv_at hl 0 rfl) ?_
      refine va_get (D := (dC, dI)) (ci := 6) (v := .ref (a 48)) (C := RX6) (T := TX6) (N := 43) hx hb hts (fun w h => List.mem_cons_of_mem _ (inWX6 w h)) hown hK hP 45 at_45 rfl 11 (by decide) (hts _ (List.mem_cons_of_mem _ kw_t3_52)) (fun _ h9 => h9) rfl dX6_isChecker_18 ?_
      refine lv_iload_n hx hb dX6_isChecker_21 rfl (lv_at hl 2 rfl) ?_
      refine va_iald hx hb hK hP 48 0 at_48 rfl (kt_inN ex_2 (by omega) (by decide)) dX6_isChecker_22 ?_
      refine lv_topi (fun t_8 et_8 => ?_)
      rw [ex_2, nI_clamp (by omega)] at et_8
      refine lv_iload_n hx hb dX6_isChecker_23 rfl (lv_at hl 1 rfl) ?_
      have hFc := mA_free (a := a) hS hA hAc
      refine va_calli (va_runS (As := [.int t_8, .int p0]) (rest := []) ⟨hx, hb, hml, hown, hts⟩ (c_X6_isOf l dC dI cI cZ cS cC cJ a v H.size t_8 p0 hD gn (by omega) hB.self) (va_cwS 2 hts (gS (fun w h => List.mem_cons_of_mem _ h) kw_t4_0 kw_t4_1 kw_t1_7 kw_t4_2) rfl rfl rfl (by decide +kernel) ⟨Nat.le_of_ble_eq_true rfl, Nat.le_of_ble_eq_true rfl⟩) ⟨fun av U g mk q => by obtain ⟨q0, q1, qP, qK, qN⟩ := q; exact ⟨q0, q1, qP, va_K.moved (u := U) (U := U.calling g mk av) (Vm.Alike.refl U.vm) qK, mN_same qN⟩, fun U hU hW => ⟨rfl, by rw [hU], by rw [hU]; exact hP, va_K.moved hW.alike hK, mN_warm hW hN⟩⟩ rfl rfl hl.1 rfl (lv_room (Nat.le_of_ble_eq_true rfl)) dX6_isChecker_24 ⟨Nat.le_of_ble_eq_true rfl, Nat.le_of_ble_eq_true rfl⟩) hS (fun q _ h => hFc q h) hFc (fun r_9 _ t H locs ht hvm hw_9 hP _ _ hS => ?_)
      have hP := kt_heap2 ht hP
      clear ht hFc
      have hP : va_P (dC, dI) vwCl (mW cI cZ cS cC cJ a v) H := hP
      refine lv_if_eq (tgt := 34) hx hb dX6_isChecker_27 (by decide) (fun c_10 => ?_) (fun c_10 => ?_)
      · refine lv_iconst (v := 0) hx hb dX6_isChecker_34 (by decide) ?_
        exact W.zret (v := 0) (ty := .boolean) hx hb hr rfl (fun t ht hW => ⟨⟨0, (), rfl, (Or.inl rfl), kt_heap ht hP⟩, hS.F ht⟩) hS.2.2 dX6_isChecker_35
      · refine lv_iconst (v := 1) hx hb dX6_isChecker_30 (by decide) ?_
        refine lv_goto (tgt := 35) hx hb dX6_isChecker_31 (by decide) ?_
        exact W.zret (v := 1) (ty := .boolean) hx hb hr rfl (fun t ht hW => ⟨⟨1, (), rfl, (Or.inr ⟨rfl, ⟨ix_2, hx_2, ex_2⟩, kt_idx (by have z0 := c_6a; have z1 := c_6b; have z2 := c_10; (try simp only [Int32.lt_iff_toInt_lt, Int32.le_iff_toInt_le, ← Int32.toInt_inj, L0, L1, L2, L3, L4, L6, L9, L500, L5, L7, L10, L12, L15, L16, L20, L63, L1000, L1023, L2000, L10000, L100000, Lm1] at z0 z1 z2); omega) (by have z0 := c_6a; have z1 := c_6b; have z2 := c_10; (try simp only [Int32.lt_iff_toInt_lt, Int32.le_iff_toInt_le, ← Int32.toInt_inj, L0, L1, L2, L3, L4, L6, L9, L500, L5, L7, L10, L12, L15, L16, L20, L63, L1000, L1023, L2000, L10000, L100000, Lm1] at z0 z1 z2); omega)⟩), kt_heap ht hP⟩, hS.F ht⟩) hS.2.2 dX6_isChecker_35
    · subst hz_6
      refine lv_if_eq (tgt := 34) hx hb dX6_isChecker_14 (by decide) (fun c_11 => ?_) (fun c_11 => absurd (by decide) c_11)
      refine lv_iconst (v := 0) hx hb dX6_isChecker_34 (by decide) ?_
      exact W.zret (v := 0) (ty := .boolean) hx hb hr rfl (fun t ht hW => ⟨⟨0, (), rfl, (Or.inl rfl), kt_heap ht hP⟩, hS.F ht⟩) hS.2.2 dX6_isChecker_35

set_option maxHeartbeats 4000000 in
set_option maxRecDepth 100000 in
theorem c_X6_isHolder (l : Launch) (dC : Nat → ClassId) (dI : Nat → Nat → Nat) (cI cZ cS cC cJ : ClassId) (a : Nat → Nat) (v : Nat → Nat → Int32) (sz : Nat) (p0 p1 : Int32) (hD : mDD a) (gn : Nat) (hn : gn < 200000) (hB : rB gn v v) : Met l yX6_isHolder (Cond.code yX6_isHolder cX6_isHolder 3 (some .boolean) :: WW) ({ frames := 1, cells := 0, slots := 0, locals := 30 }) (va_Pc [.ref (a 45), .int p0, .int p1] (fun U => U.heap.size = sz ∧ va_P (dC, dI) vwCl (mW cI cZ cS cC cJ a v) U.heap ∧ va_K (dC, dI) vwCl [(cI, .int), (cZ, .boolean), (cS, .object RX3), (cC, .object RX0), (cJ, .long)] U ∧ mN U)) (va_Qi (fun (r : Int32) (_u : Unit) => (r = 0 ∨ (r = 1 ∧ (∃ i, i < 12 ∧ p1 = nI i) ∧ ∃ i, i < 10 ∧ p0 = nI i))) (fun (_ : Unit) (t : State) => va_P (dC, dI) vwCl (mW cI cZ cS cC cJ a v) t.heap) (mA a sz)) 0 0 (mA a sz) := by
  refine Met.ofW (cc := cX6_isHolder) (maxL := 3) (ret := (some .boolean)) (by decide) rfl ?_
  intro p e s m args below meth c s₁ B hml hv
  obtain ⟨rfl, hsz, hP, hK, hN⟩ := hv
  have hx := B.exec
  have hb := B.bytes
  have hr := B.returns
  have hts := atoms_spec (ws := Cond.code yX6_isHolder cX6_isHolder 3 (some .boolean) :: WW) B.pre
  have hown : s.vm.findClass RX6 = some m.cls := findClass_of_methodNamed B.named
  have hlocks := B.notSynchronized
  subst hsz
  have hAc : ∀ c, c < 81 → mA a s.heap.size (a c) := fun c h => Or.inl ⟨c, h, rfl⟩
  have hA : ∀ q : Nat, s.heap.size ≤ q → mA a s.heap.size q := fun q h => Or.inr h
  generalize hAe : mA a s.heap.size = A at hAc hA ⊢
  have hS : va_S A s.heap s.heap [] := va_S.rf
  have hl := lv_entry ([.ref (a 45), .int p0, .int p1]) (n := 3) (Nat.le_of_ble_eq_true rfl)
  rw [lg_entry_eq]
  generalize (lg_sl ([.ref (a 45), .int p0, .int p1]) ++ List.replicate (3 - (lg_sl ([.ref (a 45), .int p0, .int p1])).length) Slot.unset).toArray = ls at hl ⊢
  have hl : lv_has ls 3 [(0, .ref (a 45)), (1, .int p0), (2, .int p1)] := hl
  refine lv_aload_n hx hb dX6_isHolder_0 rfl (lv_at hl 0 rfl) ?_
  refine lv_iload_n hx hb dX6_isHolder_1 rfl (lv_at hl 2 rfl) ?_
  have hFc := mA_free (a := a) hS hA hAc
  refine va_calli (va_runV (As := [.int p1]) (rest := []) ⟨hx, hb, hml, hown, hts⟩ (c_X6_isSecret l dC dI cI cZ cS cC cJ a v s.heap.size p1 hD gn (by omega) hB.self) (cwV 1 hts (gV (fun w h => List.mem_cons_of_mem _ h) kw_t3_183 kw_t3_185 kw_s0_12 kw_t1_7 kw_t3_186) rfl rfl rfl (by decide +kernel) ⟨Nat.le_of_ble_eq_true rfl, Nat.le_of_ble_eq_true rfl⟩) ⟨fun av U g mk q => by obtain ⟨q0, q1, qP, qK, qN⟩ := q; exact ⟨q0, q1, qP, va_K.moved (u := U) (U := U.calling g mk av) (Vm.Alike.refl U.vm) qK, mN_same qN⟩, va_recv hK hP (ci := 6) (q0 := 45) rfl at_45, fun U hU hW => ⟨rfl, by rw [hU], by rw [hU]; exact hP, va_K.moved hW.alike hK, mN_warm hW hN⟩⟩ rfl rfl hl.1 rfl (lv_room (Nat.le_of_ble_eq_true rfl)) dX6_isHolder_2 ⟨Nat.le_of_ble_eq_true rfl, Nat.le_of_ble_eq_true rfl⟩) hS (fun q _ h => hFc q h) hFc (fun r_1 _ t H locs ht hvm hw_1 hP _ _ hS => ?_)
  have hP := kt_heap2 ht hP
  clear ht hFc
  have hP : va_P (dC, dI) vwCl (mW cI cZ cS cC cJ a v) H := hP
  rcases hw_1 with ⟨hz_2, hns_2⟩ | ⟨hz_2, ix_2, hx_2, ex_2, hlt_2⟩
  · subst hz_2
    refine lv_if_eq (tgt := 35) hx hb dX6_isHolder_5 (by decide) (fun c_3 => ?_) (fun c_3 => absurd (by decide) c_3)
    refine lv_iconst (v := 0) hx hb dX6_isHolder_35 (by decide) ?_
    exact W.zret (v := 0) (ty := .boolean) hx hb hr rfl (fun t ht hW => ⟨⟨0, (), rfl, (Or.inl rfl), kt_heap ht hP⟩, hS.F ht⟩) hS.2.2 dX6_isHolder_36
  · subst hz_2
    refine lv_if_eq (tgt := 35) hx hb dX6_isHolder_5 (by decide) (fun c_4 => absurd c_4 (by decide)) (fun c_4 => ?_)
    refine lv_iload_n hx hb dX6_isHolder_8 rfl (lv_at hl 1 rfl) ?_
    refine lv_iconst (v := 0) hx hb dX6_isHolder_9 (by decide) ?_
    refine lv_bipush (v := 9) hx hb dX6_isHolder_10 (by decide) ?_
    have hFc := mA_free (a := a) hS hA hAc
    refine va_calli (va_runS (As := [.int p0, .int 0, .int 9]) (rest := []) ⟨hx, hb, hml, hown, hts⟩ (c_X6_isIn l dC dI cI cZ cS cC cJ a v H.size p0 0 9 hD gn (by omega) hB.self) (va_cwS 3 hts (gS (fun w h => List.mem_cons_of_mem _ h) kw_t3_176 kw_t3_177 kw_t1_7 kw_t3_178) rfl rfl rfl (by decide +kernel) ⟨Nat.le_of_ble_eq_true rfl, Nat.le_of_ble_eq_true rfl⟩) ⟨fun av U g mk q => by obtain ⟨q0, q1, qP, qK, qN⟩ := q; exact ⟨q0, q1, qP, va_K.moved (u := U) (U := U.calling g mk av) (Vm.Alike.refl U.vm) qK, mN_same qN⟩, fun U hU hW => ⟨rfl, by rw [hU], by rw [hU]; exact hP, va_K.moved hW.alike hK, mN_warm hW hN⟩⟩ rfl rfl hl.1 rfl (lv_room (Nat.le_of_ble_eq_true rfl)) dX6_isHolder_12 ⟨Nat.le_of_ble_eq_true rfl, Nat.le_of_ble_eq_true rfl⟩) hS (fun q _ h => hFc q h) hFc (fun r_5 _ t H locs ht hvm hw_5 hP _ _ hS => ?_)
    have hP := kt_heap2 ht hP
    clear ht hFc
    have hP : va_P (dC, dI) vwCl (mW cI cZ cS cC cJ a v) H := hP
    rcases hw_5 with ⟨hz_6, c_6a, c_6b⟩ | ⟨hz_6, c_6d⟩
    · subst hz_6
      refine lv_if_eq (tgt := 35) hx hb dX6_isHolder_15 (by decide) (fun c_7 => absurd c_7 (by decide)) (fun c_7 => ?_)
      refine lv_aload_n hx hb dX6_isHolder_18 rfl (lv_at hl 0 rfl) ?_
      refine va_get (D := (dC, dI)) (ci := 6) (v := .ref (a 47)) (C := RX6) (T := TX6) (N := 43) hx hb hts (fun w h => List.mem_cons_of_mem _ (inWX6 w h)) hown hK hP 45 at_45 rfl 10 (by decide) (hts _ (List.mem_cons_of_mem _ kw_t3_51)) (fun _ h9 => h9) rfl dX6_isHolder_19 ?_
      refine lv_iload_n hx hb dX6_isHolder_22 rfl (lv_at hl 2 rfl) ?_
      refine va_iald hx hb hK hP 47 0 at_47 rfl (kt_inN ex_2 (by omega) (by decide)) dX6_isHolder_23 ?_
      refine lv_topi (fun t_8 et_8 => ?_)
      rw [ex_2, nI_clamp (by omega)] at et_8
      refine lv_iload_n hx hb dX6_isHolder_24 rfl (lv_at hl 1 rfl) ?_
      have hFc := mA_free (a := a) hS hA hAc
      refine va_calli (va_runS (As := [.int t_8, .int p0]) (rest := []) ⟨hx, hb, hml, hown, hts⟩ (c_X6_isOf l dC dI cI cZ cS cC cJ a v H.size t_8 p0 hD gn (by omega) hB.self) (va_cwS 2 hts (gS (fun w h => List.mem_cons_of_mem _ h) kw_t4_0 kw_t4_1 kw_t1_7 kw_t4_2) rfl rfl rfl (by decide +kernel) ⟨Nat.le_of_ble_eq_true rfl, Nat.le_of_ble_eq_true rfl⟩) ⟨fun av U g mk q => by obtain ⟨q0, q1, qP, qK, qN⟩ := q; exact ⟨q0, q1, qP, va_K.moved (u := U) (U := U.calling g mk av) (Vm.Alike.refl U.vm) qK, mN_same qN⟩, fun U hU hW => ⟨rfl, by rw [hU], by rw [hU]; exact hP, va_K.moved hW.alike hK, mN_warm hW hN⟩⟩ rfl rfl hl.1 rfl (lv_room (Nat.le_of_ble_eq_true rfl)) dX6_isHolder_25 ⟨Nat.le_of_ble_eq_true rfl, Nat.le_of_ble_eq_true rfl⟩) hS (fun q _ h => hFc q h) hFc (fun r_9 _ t H locs ht hvm hw_9 hP _ _ hS => ?_)
      have hP := kt_heap2 ht hP
      clear ht hFc
      have hP : va_P (dC, dI) vwCl (mW cI cZ cS cC cJ a v) H := hP
      refine lv_if_eq (tgt := 35) hx hb dX6_isHolder_28 (by decide) (fun c_10 => ?_) (fun c_10 => ?_)
      · refine lv_iconst (v := 0) hx hb dX6_isHolder_35 (by decide) ?_
        exact W.zret (v := 0) (ty := .boolean) hx hb hr rfl (fun t ht hW => ⟨⟨0, (), rfl, (Or.inl rfl), kt_heap ht hP⟩, hS.F ht⟩) hS.2.2 dX6_isHolder_36
      · refine lv_iconst (v := 1) hx hb dX6_isHolder_31 (by decide) ?_
        refine lv_goto (tgt := 36) hx hb dX6_isHolder_32 (by decide) ?_
        exact W.zret (v := 1) (ty := .boolean) hx hb hr rfl (fun t ht hW => ⟨⟨1, (), rfl, (Or.inr ⟨rfl, ⟨ix_2, hx_2, ex_2⟩, kt_idx (by have z0 := c_6a; have z1 := c_6b; have z2 := c_10; (try simp only [Int32.lt_iff_toInt_lt, Int32.le_iff_toInt_le, ← Int32.toInt_inj, L0, L1, L2, L3, L4, L6, L9, L500, L5, L7, L10, L12, L15, L16, L20, L63, L1000, L1023, L2000, L10000, L100000, Lm1] at z0 z1 z2); omega) (by have z0 := c_6a; have z1 := c_6b; have z2 := c_10; (try simp only [Int32.lt_iff_toInt_lt, Int32.le_iff_toInt_le, ← Int32.toInt_inj, L0, L1, L2, L3, L4, L6, L9, L500, L5, L7, L10, L12, L15, L16, L20, L63, L1000, L1023, L2000, L10000, L100000, Lm1] at z0 z1 z2); omega)⟩), kt_heap ht hP⟩, hS.F ht⟩) hS.2.2 dX6_isHolder_36
    · subst hz_6
      refine lv_if_eq (tgt := 35) hx hb dX6_isHolder_15 (by decide) (fun c_11 => ?_) (fun c_11 => absurd (by decide) c_11)
      refine lv_iconst (v := 0) hx hb dX6_isHolder_35 (by decide) ?_
      exact W.zret (v := 0) (ty := .boolean) hx hb hr rfl (fun t ht hW => ⟨⟨0, (), rfl, (Or.inl rfl), kt_heap ht hP⟩, hS.F ht⟩) hS.2.2 dX6_isHolder_36

set_option maxHeartbeats 4000000 in
set_option maxRecDepth 100000 in
theorem c_X6_ask (l : Launch) (dC : Nat → ClassId) (dI : Nat → Nat → Nat) (cI cZ cS cC cJ : ClassId) (a : Nat → Nat) (v : Nat → Nat → Int32) (sz : Nat) (p0 p1 p2 : Int32) (hD : mDD a) (gn : Nat) (hn : gn < 200000) (hB : rB gn v v) (hL : rL v) : Met l yX6_ask (Cond.code yX6_ask cX6_ask 4 (some .int) :: WW) ({ frames := 2, cells := 0, slots := 0, locals := 60 }) (va_Pc [.ref (a 45), .int p0, .int p1, .int p2] (fun U => U.heap.size = sz ∧ va_P (dC, dI) vwCl (mW cI cZ cS cC cJ a v) U.heap ∧ va_K (dC, dI) vwCl [(cI, .int), (cZ, .boolean), (cS, .object RX3), (cC, .object RX0), (cJ, .long)] U ∧ mN U)) (va_Qi (fun (r : Int32) (u : Nat → Nat → Int32) => (rB gn v u) ∧ (rL u)) (fun (u : Nat → Nat → Int32) (t : State) => va_P (dC, dI) vwCl (mW cI cZ cS cC cJ a u) t.heap) (mA a sz)) 0 0 (mA a sz) := by
  refine Met.ofW (cc := cX6_ask) (maxL := 4) (ret := (some .int)) (by decide) rfl ?_
  intro p e s m args below meth c s₁ B hml hv
  obtain ⟨rfl, hsz, hP, hK, hN⟩ := hv
  have hx := B.exec
  have hb := B.bytes
  have hr := B.returns
  have hts := atoms_spec (ws := Cond.code yX6_ask cX6_ask 4 (some .int) :: WW) B.pre
  have hown : s.vm.findClass RX6 = some m.cls := findClass_of_methodNamed B.named
  have hlocks := B.notSynchronized
  subst hsz
  have hAc : ∀ c, c < 81 → mA a s.heap.size (a c) := fun c h => Or.inl ⟨c, h, rfl⟩
  have hA : ∀ q : Nat, s.heap.size ≤ q → mA a s.heap.size q := fun q h => Or.inr h
  generalize hAe : mA a s.heap.size = A at hAc hA ⊢
  have hS : va_S A s.heap s.heap [] := va_S.rf
  have hl := lv_entry ([.ref (a 45), .int p0, .int p1, .int p2]) (n := 4) (Nat.le_of_ble_eq_true rfl)
  rw [lg_entry_eq]
  generalize (lg_sl ([.ref (a 45), .int p0, .int p1, .int p2]) ++ List.replicate (4 - (lg_sl ([.ref (a 45), .int p0, .int p1, .int p2])).length) Slot.unset).toArray = ls at hl ⊢
  have hl : lv_has ls 4 [(0, .ref (a 45)), (1, .int p0), (2, .int p1), (3, .int p2)] := hl
  refine lv_aload_n hx hb dX6_ask_0 rfl (lv_at hl 0 rfl) ?_
  refine lv_iconst (v := 0) hx hb dX6_ask_1 (by decide) ?_
  refine va_put (D := (dC, dI)) (ci := 6) (v := .int 0) (ty := .int) (C := RX6) (T := TX6) (N := 43) hx hb hts (fun w h => List.mem_cons_of_mem _ (inWX6 w h)) tyX6 tyX6_ok nmX6 hown hK hP (mD_of hD hAc) hS 45 at_45 rfl 0 (by decide) (hts _ (List.mem_cons_of_mem _ kw_t3_41)) (fun _ h9 => h9) rfl (by decide +kernel) rfl rfl (Nat.le_of_ble_eq_true rfl) dX6_ask_2 (fun H locs hP _ hS => ?_)
  obtain ⟨v_1, ev_1⟩ : ∃ z, z = mU v 45 (upd (v 45) 0 0) := ⟨_, rfl⟩
  have hP : va_P (dC, dI) vwCl (mW cI cZ cS cC cJ a v_1) H := by rw [ev_1]; exact mW_put hP (by omega) rfl
  have hB := hB.putO ev_1 (by decide)
  have hL := hL.putM ev_1 (by decide)
  refine lv_aload_n hx hb dX6_ask_5 rfl (lv_at hl 0 rfl) ?_
  refine lv_iload_n hx hb dX6_ask_6 rfl (lv_at hl 1 rfl) ?_
  refine lv_iload_n hx hb dX6_ask_7 rfl (lv_at hl 2 rfl) ?_
  have hFc := mA_free (a := a) hS hA hAc
  refine va_calli (va_runV (As := [.int p0, .int p1]) (rest := []) ⟨hx, hb, hml, hown, hts⟩ (c_X6_isHolder l dC dI cI cZ cS cC cJ a v_1 H.size p0 p1 hD gn (by omega) hB.self) (cwV 2 hts (gV (fun w h => List.mem_cons_of_mem _ h) kw_t4_24 kw_t4_26 kw_s0_22 kw_t1_7 kw_t4_27) rfl rfl rfl (by decide +kernel) ⟨Nat.le_of_ble_eq_true rfl, Nat.le_of_ble_eq_true rfl⟩) ⟨fun av U g mk q => by obtain ⟨q0, q1, qP, qK, qN⟩ := q; exact ⟨q0, q1, qP, va_K.moved (u := U) (U := U.calling g mk av) (Vm.Alike.refl U.vm) qK, mN_same qN⟩, va_recv hK hP (ci := 6) (q0 := 45) rfl at_45, fun U hU hW => ⟨rfl, by rw [hU], by rw [hU]; exact hP, va_K.moved hW.alike hK, mN_warm hW hN⟩⟩ rfl rfl hl.1 rfl (lv_room (Nat.le_of_ble_eq_true rfl)) dX6_ask_8 ⟨Nat.le_of_ble_eq_true rfl, Nat.le_of_ble_eq_true rfl⟩) hS (fun q _ h => hFc q h) hFc (fun r_2 _ t H locs ht hvm hw_2 hP _ _ hS => ?_)
  have hP := kt_heap2 ht hP
  clear ht hFc
  have hP : va_P (dC, dI) vwCl (mW cI cZ cS cC cJ a v_1) H := hP
  rcases hw_2 with hz_3 | ⟨hz_3, ⟨ix_3, hx_3, ex_3⟩, ⟨iy_3, hy_3, ey_3⟩⟩
  · subst hz_3
    refine lv_if_eq (tgt := 23) hx hb dX6_ask_11 (by decide) (fun c_4 => ?_) (fun c_4 => absurd (by decide) c_4)
    refine lv_iconst (v := (-1)) hx hb dX6_ask_23 (by decide) ?_
    exact W.iret (v := (-1)) hx hb hr (fun t ht hW => ⟨⟨(-1), v_1, rfl, ⟨hB, hL⟩, kt_heap ht hP⟩, hS.F ht⟩) hS.2.2 dX6_ask_24
  · subst hz_3
    refine lv_if_eq (tgt := 23) hx hb dX6_ask_11 (by decide) (fun c_5 => absurd c_5 (by decide)) (fun c_5 => ?_)
    refine lv_aload_n hx hb dX6_ask_14 rfl (lv_at hl 0 rfl) ?_
    refine lv_iload_n hx hb dX6_ask_15 rfl (lv_at hl 3 rfl) ?_
    refine lv_iload_n hx hb dX6_ask_16 rfl (lv_at hl 2 rfl) ?_
    have hFc := mA_free (a := a) hS hA hAc
    refine va_calli (va_runV (As := [.int p2, .int p1]) (rest := []) ⟨hx, hb, hml, hown, hts⟩ (c_X6_isChecker l dC dI cI cZ cS cC cJ a v_1 H.size p2 p1 hD gn (by omega) hB.self) (cwV 2 hts (gV (fun w h => List.mem_cons_of_mem _ h) kw_t4_28 kw_t4_30 kw_s0_23 kw_t1_7 kw_t4_31) rfl rfl rfl (by decide +kernel) ⟨Nat.le_of_ble_eq_true rfl, Nat.le_of_ble_eq_true rfl⟩) ⟨fun av U g mk q => by obtain ⟨q0, q1, qP, qK, qN⟩ := q; exact ⟨q0, q1, qP, va_K.moved (u := U) (U := U.calling g mk av) (Vm.Alike.refl U.vm) qK, mN_same qN⟩, va_recv hK hP (ci := 6) (q0 := 45) rfl at_45, fun U hU hW => ⟨rfl, by rw [hU], by rw [hU]; exact hP, va_K.moved hW.alike hK, mN_warm hW hN⟩⟩ rfl rfl hl.1 rfl (lv_room (Nat.le_of_ble_eq_true rfl)) dX6_ask_17 ⟨Nat.le_of_ble_eq_true rfl, Nat.le_of_ble_eq_true rfl⟩) hS (fun q _ h => hFc q h) hFc (fun r_6 _ t H locs ht hvm hw_6 hP _ _ hS => ?_)
    have hP := kt_heap2 ht hP
    clear ht hFc
    have hP : va_P (dC, dI) vwCl (mW cI cZ cS cC cJ a v_1) H := hP
    rcases hw_6 with hz_7 | ⟨hz_7, ⟨ix_7, hx_7, ex_7⟩, ⟨iy_7, hy_7, ey_7⟩⟩
    · subst hz_7
      refine lv_if_ne (tgt := 25) hx hb dX6_ask_20 (by decide) (fun c_8 => absurd (by decide) c_8) (fun c_8 => ?_)
      refine lv_iconst (v := (-1)) hx hb dX6_ask_23 (by decide) ?_
      exact W.iret (v := (-1)) hx hb hr (fun t ht hW => ⟨⟨(-1), v_1, rfl, ⟨hB, hL⟩, kt_heap ht hP⟩, hS.F ht⟩) hS.2.2 dX6_ask_24
    · subst hz_7
      refine lv_if_ne (tgt := 25) hx hb dX6_ask_20 (by decide) (fun c_9 => ?_) (fun c_9 => absurd c_9 (by decide))
      refine lv_aload_n hx hb dX6_ask_25 rfl (lv_at hl 0 rfl) ?_
      refine lv_iload_n hx hb dX6_ask_26 rfl (lv_at hl 1 rfl) ?_
      refine lv_iload_n hx hb dX6_ask_27 rfl (lv_at hl 2 rfl) ?_
      refine lv_iload_n hx hb dX6_ask_28 rfl (lv_at hl 3 rfl) ?_
      refine lv_aload_n hx hb dX6_ask_29 rfl (lv_at hl 0 rfl) ?_
      refine va_get (D := (dC, dI)) (ci := 6) (v := .ref (a 61)) (C := RX6) (T := TX6) (N := 43) hx hb hts (fun w h => List.mem_cons_of_mem _ (inWX6 w h)) hown hK hP 45 at_45 rfl 24 (by decide) (hts _ (List.mem_cons_of_mem _ kw_t3_65)) (fun _ h9 => h9) rfl dX6_ask_30 ?_
      refine lv_bipush (v := 10) hx hb dX6_ask_33 (by decide) ?_
      refine lv_iload_n hx hb dX6_ask_35 rfl (lv_at hl 2 rfl) ?_
      refine lv_imul hx hb dX6_ask_36 ?_
      refine lv_topi (fun t_10 et_10 => ?_)
      refine lv_iload_n hx hb dX6_ask_37 rfl (lv_at hl 1 rfl) ?_
      refine lv_iadd hx hb dX6_ask_38 ?_
      refine lv_topi (fun t_11 et_11 => ?_)
      have hm_12 : t_11 = nI (10 * ix_7 + iy_3) := kt_mad (C := 10) rfl ex_7 ey_3 et_10 et_11
      refine va_iald hx hb hK hP 61 0 at_61 rfl (kt_inN hm_12 (by omega) (by decide)) dX6_ask_39 ?_
      refine lv_topi (fun t_13 et_13 => ?_)
      rw [hm_12, nI_clamp (by omega)] at et_13
      refine lv_aload_n hx hb dX6_ask_40 rfl (lv_at hl 0 rfl) ?_
      refine va_get (D := (dC, dI)) (ci := 6) (v := .ref (a 60)) (C := RX6) (T := TX6) (N := 43) hx hb hts (fun w h => List.mem_cons_of_mem _ (inWX6 w h)) hown hK hP 45 at_45 rfl 23 (by decide) (hts _ (List.mem_cons_of_mem _ kw_t3_64)) (fun _ h9 => h9) rfl dX6_ask_41 ?_
      refine lv_iload_n hx hb dX6_ask_44 rfl (lv_at hl 1 rfl) ?_
      refine va_zald hx hb hK hP 60 1 at_60 rfl (kt_inN ey_3 (by omega) (by decide)) dX6_ask_45 ?_
      refine lv_topi (fun t_14 et_14 => ?_)
      rw [ey_3, nI_clamp (by omega)] at et_14
      refine lv_if_ne (tgt := 53) hx hb dX6_ask_46 (by decide) (fun c_15 => ?_) (fun c_15 => ?_)
      · refine lv_iconst (v := 0) hx hb dX6_ask_53 (by decide) ?_
        have hFc := mA_free (a := a) hS hA hAc
        refine va_calli (va_runV (As := [.int p0, .int p1, .int p2, .int t_13, .int 0]) (rest := []) ⟨hx, hb, hml, hown, hts⟩ (c_X6_asks l dC dI cI cZ cS cC cJ a v_1 H.size p0 p1 p2 t_13 0 hD gn (by omega) hB.self hL ix_7 (by omega) ex_7 iy_7 (by omega) ey_7) (cwV 5 hts (gV (fun w h => List.mem_cons_of_mem _ h) kw_t4_32 kw_t4_34 kw_s0_24 kw_t1_7 kw_t4_35) rfl rfl rfl (by decide +kernel) ⟨Nat.le_of_ble_eq_true rfl, Nat.le_of_ble_eq_true rfl⟩) ⟨fun av U g mk q => by obtain ⟨q0, q1, qP, qK, qN⟩ := q; exact ⟨q0, q1, qP, va_K.moved (u := U) (U := U.calling g mk av) (Vm.Alike.refl U.vm) qK, mN_same qN⟩, va_recv hK hP (ci := 6) (q0 := 45) rfl at_45, fun U hU hW => ⟨rfl, by rw [hU], by rw [hU]; exact hP, va_K.moved hW.alike hK, mN_warm hW hN⟩⟩ rfl rfl hl.1 rfl (lv_room (Nat.le_of_ble_eq_true rfl)) dX6_ask_54 ⟨Nat.le_of_ble_eq_true rfl, Nat.le_of_ble_eq_true rfl⟩) hS (fun q _ h => hFc q h) hFc (fun r_16 v_16 t H locs ht hvm hw_16 hP _ _ hS => ?_)
        have hP := kt_heap2 ht hP
        clear ht hFc
        have hP : va_P (dC, dI) vwCl (mW cI cZ cS cC cJ a v_16) H := hP
        have hB := hB.trans hw_16.1
        have hL := hw_16.2
        exact W.iret (v := r_16) hx hb hr (fun t ht hW => ⟨⟨r_16, v_16, rfl, ⟨hB, hL⟩, kt_heap ht hP⟩, hS.F ht⟩) hS.2.2 dX6_ask_57
      · refine lv_iconst (v := 1) hx hb dX6_ask_49 (by decide) ?_
        refine lv_goto (tgt := 54) hx hb dX6_ask_50 (by decide) ?_
        have hFc := mA_free (a := a) hS hA hAc
        refine va_calli (va_runV (As := [.int p0, .int p1, .int p2, .int t_13, .int 1]) (rest := []) ⟨hx, hb, hml, hown, hts⟩ (c_X6_asks l dC dI cI cZ cS cC cJ a v_1 H.size p0 p1 p2 t_13 1 hD gn (by omega) hB.self hL ix_7 (by omega) ex_7 iy_7 (by omega) ey_7) (cwV 5 hts (gV (fun w h => List.mem_cons_of_mem _ h) kw_t4_32 kw_t4_34 kw_s0_24 kw_t1_7 kw_t4_35) rfl rfl rfl (by decide +kernel) ⟨Nat.le_of_ble_eq_true rfl, Nat.le_of_ble_eq_true rfl⟩) ⟨fun av U g mk q => by obtain ⟨q0, q1, qP, qK, qN⟩ := q; exact ⟨q0, q1, qP, va_K.moved (u := U) (U := U.calling g mk av) (Vm.Alike.refl U.vm) qK, mN_same qN⟩, va_recv hK hP (ci := 6) (q0 := 45) rfl at_45, fun U hU hW => ⟨rfl, by rw [hU], by rw [hU]; exact hP, va_K.moved hW.alike hK, mN_warm hW hN⟩⟩ rfl rfl hl.1 rfl (lv_room (Nat.le_of_ble_eq_true rfl)) dX6_ask_54 ⟨Nat.le_of_ble_eq_true rfl, Nat.le_of_ble_eq_true rfl⟩) hS (fun q _ h => hFc q h) hFc (fun r_17 v_17 t H locs ht hvm hw_17 hP _ _ hS => ?_)
        have hP := kt_heap2 ht hP
        clear ht hFc
        have hP : va_P (dC, dI) vwCl (mW cI cZ cS cC cJ a v_17) H := hP
        have hB := hB.trans hw_17.1
        have hL := hw_17.2
        exact W.iret (v := r_17) hx hb hr (fun t ht hW => ⟨⟨r_17, v_17, rfl, ⟨hB, hL⟩, kt_heap ht hP⟩, hS.F ht⟩) hS.2.2 dX6_ask_57

set_option maxHeartbeats 4000000 in
set_option maxRecDepth 100000 in
theorem c_X6_stranger (l : Launch) (dC : Nat → ClassId) (dI : Nat → Nat → Nat) (cI cZ cS cC cJ : ClassId) (a : Nat → Nat) (v : Nat → Nat → Int32) (sz : Nat) (p0 p1 p2 p3 : Int32) (hD : mDD a) (gn : Nat) (hn : gn < 200000) (hB : rB gn v v) (hL : rL v) : Met l yX6_stranger (Cond.code yX6_stranger cX6_stranger 5 (some .int) :: WW) ({ frames := 2, cells := 0, slots := 0, locals := 60 }) (va_Pc [.ref (a 45), .int p0, .int p1, .int p2, .int p3] (fun U => U.heap.size = sz ∧ va_P (dC, dI) vwCl (mW cI cZ cS cC cJ a v) U.heap ∧ va_K (dC, dI) vwCl [(cI, .int), (cZ, .boolean), (cS, .object RX3), (cC, .object RX0), (cJ, .long)] U ∧ mN U)) (va_Qi (fun (r : Int32) (u : Nat → Nat → Int32) => (rB gn v u) ∧ (rL u)) (fun (u : Nat → Nat → Int32) (t : State) => va_P (dC, dI) vwCl (mW cI cZ cS cC cJ a u) t.heap) (mA a sz)) 0 0 (mA a sz) := by
  refine Met.ofW (cc := cX6_stranger) (maxL := 5) (ret := (some .int)) (by decide) rfl ?_
  intro p e s m args below meth c s₁ B hml hv
  obtain ⟨rfl, hsz, hP, hK, hN⟩ := hv
  have hx := B.exec
  have hb := B.bytes
  have hr := B.returns
  have hts := atoms_spec (ws := Cond.code yX6_stranger cX6_stranger 5 (some .int) :: WW) B.pre
  have hown : s.vm.findClass RX6 = some m.cls := findClass_of_methodNamed B.named
  have hlocks := B.notSynchronized
  subst hsz
  have hAc : ∀ c, c < 81 → mA a s.heap.size (a c) := fun c h => Or.inl ⟨c, h, rfl⟩
  have hA : ∀ q : Nat, s.heap.size ≤ q → mA a s.heap.size q := fun q h => Or.inr h
  generalize hAe : mA a s.heap.size = A at hAc hA ⊢
  have hS : va_S A s.heap s.heap [] := va_S.rf
  have hl := lv_entry ([.ref (a 45), .int p0, .int p1, .int p2, .int p3]) (n := 5) (Nat.le_of_ble_eq_true rfl)
  rw [lg_entry_eq]
  generalize (lg_sl ([.ref (a 45), .int p0, .int p1, .int p2, .int p3]) ++ List.replicate (5 - (lg_sl ([.ref (a 45), .int p0, .int p1, .int p2, .int p3])).length) Slot.unset).toArray = ls at hl ⊢
  have hl : lv_has ls 5 [(0, .ref (a 45)), (1, .int p0), (2, .int p1), (3, .int p2), (4, .int p3)] := hl
  refine lv_aload_n hx hb dX6_stranger_0 rfl (lv_at hl 0 rfl) ?_
  refine lv_iconst (v := 0) hx hb dX6_stranger_1 (by decide) ?_
  refine va_put (D := (dC, dI)) (ci := 6) (v := .int 0) (ty := .int) (C := RX6) (T := TX6) (N := 43) hx hb hts (fun w h => List.mem_cons_of_mem _ (inWX6 w h)) tyX6 tyX6_ok nmX6 hown hK hP (mD_of hD hAc) hS 45 at_45 rfl 0 (by decide) (hts _ (List.mem_cons_of_mem _ kw_t3_41)) (fun _ h9 => h9) rfl (by decide +kernel) rfl rfl (Nat.le_of_ble_eq_true rfl) dX6_stranger_2 (fun H locs hP _ hS => ?_)
  obtain ⟨v_1, ev_1⟩ : ∃ z, z = mU v 45 (upd (v 45) 0 0) := ⟨_, rfl⟩
  have hP : va_P (dC, dI) vwCl (mW cI cZ cS cC cJ a v_1) H := by rw [ev_1]; exact mW_put hP (by omega) rfl
  have hB := hB.putO ev_1 (by decide)
  have hL := hL.putM ev_1 (by decide)
  refine lv_aload_n hx hb dX6_stranger_5 rfl (lv_at hl 0 rfl) ?_
  refine lv_iload_n hx hb dX6_stranger_6 rfl (lv_at hl 3 rfl) ?_
  refine lv_iload_n hx hb dX6_stranger_7 rfl (lv_at hl 2 rfl) ?_
  have hFc := mA_free (a := a) hS hA hAc
  refine va_calli (va_runV (As := [.int p2, .int p1]) (rest := []) ⟨hx, hb, hml, hown, hts⟩ (c_X6_isChecker l dC dI cI cZ cS cC cJ a v_1 H.size p2 p1 hD gn (by omega) hB.self) (cwV 2 hts (gV (fun w h => List.mem_cons_of_mem _ h) kw_t4_28 kw_t4_30 kw_s0_23 kw_t1_7 kw_t4_31) rfl rfl rfl (by decide +kernel) ⟨Nat.le_of_ble_eq_true rfl, Nat.le_of_ble_eq_true rfl⟩) ⟨fun av U g mk q => by obtain ⟨q0, q1, qP, qK, qN⟩ := q; exact ⟨q0, q1, qP, va_K.moved (u := U) (U := U.calling g mk av) (Vm.Alike.refl U.vm) qK, mN_same qN⟩, va_recv hK hP (ci := 6) (q0 := 45) rfl at_45, fun U hU hW => ⟨rfl, by rw [hU], by rw [hU]; exact hP, va_K.moved hW.alike hK, mN_warm hW hN⟩⟩ rfl rfl hl.1 rfl (lv_room (Nat.le_of_ble_eq_true rfl)) dX6_stranger_8 ⟨Nat.le_of_ble_eq_true rfl, Nat.le_of_ble_eq_true rfl⟩) hS (fun q _ h => hFc q h) hFc (fun r_2 _ t H locs ht hvm hw_2 hP _ _ hS => ?_)
  have hP := kt_heap2 ht hP
  clear ht hFc
  have hP : va_P (dC, dI) vwCl (mW cI cZ cS cC cJ a v_1) H := hP
  rcases hw_2 with hz_3 | ⟨hz_3, ⟨ix_3, hx_3, ex_3⟩, ⟨iy_3, hy_3, ey_3⟩⟩
  · subst hz_3
    refine lv_if_eq (tgt := 48) hx hb dX6_stranger_11 (by decide) (fun c_4 => ?_) (fun c_4 => absurd (by decide) c_4)
    refine lv_iconst (v := (-1)) hx hb dX6_stranger_48 (by decide) ?_
    exact W.iret (v := (-1)) hx hb hr (fun t ht hW => ⟨⟨(-1), v_1, rfl, ⟨hB, hL⟩, kt_heap ht hP⟩, hS.F ht⟩) hS.2.2 dX6_stranger_49
  · subst hz_3
    refine lv_if_eq (tgt := 48) hx hb dX6_stranger_11 (by decide) (fun c_5 => absurd c_5 (by decide)) (fun c_5 => ?_)
    refine lv_iload_n hx hb dX6_stranger_14 rfl (lv_at hl 1 rfl) ?_
    refine lv_iconst (v := 0) hx hb dX6_stranger_15 (by decide) ?_
    refine lv_bipush (v := 9) hx hb dX6_stranger_16 (by decide) ?_
    have hFc := mA_free (a := a) hS hA hAc
    refine va_calli (va_runS (As := [.int p0, .int 0, .int 9]) (rest := []) ⟨hx, hb, hml, hown, hts⟩ (c_X6_isIn l dC dI cI cZ cS cC cJ a v_1 H.size p0 0 9 hD gn (by omega) hB.self) (va_cwS 3 hts (gS (fun w h => List.mem_cons_of_mem _ h) kw_t3_176 kw_t3_177 kw_t1_7 kw_t3_178) rfl rfl rfl (by decide +kernel) ⟨Nat.le_of_ble_eq_true rfl, Nat.le_of_ble_eq_true rfl⟩) ⟨fun av U g mk q => by obtain ⟨q0, q1, qP, qK, qN⟩ := q; exact ⟨q0, q1, qP, va_K.moved (u := U) (U := U.calling g mk av) (Vm.Alike.refl U.vm) qK, mN_same qN⟩, fun U hU hW => ⟨rfl, by rw [hU], by rw [hU]; exact hP, va_K.moved hW.alike hK, mN_warm hW hN⟩⟩ rfl rfl hl.1 rfl (lv_room (Nat.le_of_ble_eq_true rfl)) dX6_stranger_18 ⟨Nat.le_of_ble_eq_true rfl, Nat.le_of_ble_eq_true rfl⟩) hS (fun q _ h => hFc q h) hFc (fun r_6 _ t H locs ht hvm hw_6 hP _ _ hS => ?_)
    have hP := kt_heap2 ht hP
    clear ht hFc
    have hP : va_P (dC, dI) vwCl (mW cI cZ cS cC cJ a v_1) H := hP
    rcases hw_6 with ⟨hz_7, c_7a, c_7b⟩ | ⟨hz_7, c_7d⟩
    · subst hz_7
      refine lv_if_eq (tgt := 48) hx hb dX6_stranger_21 (by decide) (fun c_8 => absurd c_8 (by decide)) (fun c_8 => ?_)
      refine lv_aload_n hx hb dX6_stranger_24 rfl (lv_at hl 0 rfl) ?_
      refine lv_iload_n hx hb dX6_stranger_25 rfl (lv_at hl 1 rfl) ?_
      refine lv_iload_n hx hb dX6_stranger_26 rfl (lv_at hl 2 rfl) ?_
      have hFc := mA_free (a := a) hS hA hAc
      refine va_calli (va_runV (As := [.int p0, .int p1]) (rest := []) ⟨hx, hb, hml, hown, hts⟩ (c_X6_isHolder l dC dI cI cZ cS cC cJ a v_1 H.size p0 p1 hD gn (by omega) hB.self) (cwV 2 hts (gV (fun w h => List.mem_cons_of_mem _ h) kw_t4_24 kw_t4_26 kw_s0_22 kw_t1_7 kw_t4_27) rfl rfl rfl (by decide +kernel) ⟨Nat.le_of_ble_eq_true rfl, Nat.le_of_ble_eq_true rfl⟩) ⟨fun av U g mk q => by obtain ⟨q0, q1, qP, qK, qN⟩ := q; exact ⟨q0, q1, qP, va_K.moved (u := U) (U := U.calling g mk av) (Vm.Alike.refl U.vm) qK, mN_same qN⟩, va_recv hK hP (ci := 6) (q0 := 45) rfl at_45, fun U hU hW => ⟨rfl, by rw [hU], by rw [hU]; exact hP, va_K.moved hW.alike hK, mN_warm hW hN⟩⟩ rfl rfl hl.1 rfl (lv_room (Nat.le_of_ble_eq_true rfl)) dX6_stranger_27 ⟨Nat.le_of_ble_eq_true rfl, Nat.le_of_ble_eq_true rfl⟩) hS (fun q _ h => hFc q h) hFc (fun r_9 _ t H locs ht hvm hw_9 hP _ _ hS => ?_)
      have hP := kt_heap2 ht hP
      clear ht hFc
      have hP : va_P (dC, dI) vwCl (mW cI cZ cS cC cJ a v_1) H := hP
      rcases hw_9 with hz_10 | ⟨hz_10, ⟨ix_10, hx_10, ex_10⟩, ⟨iy_10, hy_10, ey_10⟩⟩
      · subst hz_10
        refine lv_if_ne (tgt := 48) hx hb dX6_stranger_30 (by decide) (fun c_11 => absurd (by decide) c_11) (fun c_11 => ?_)
        refine lv_iload hx hb dX6_stranger_33 (lv_at hl 4 rfl) ?_
        refine lv_iconst (v := 0) hx hb dX6_stranger_35 (by decide) ?_
        refine lv_aload_n hx hb dX6_stranger_36 rfl (lv_at hl 0 rfl) ?_
        refine va_get (D := (dC, dI)) (ci := 6) (v := .ref (a 50)) (C := RX6) (T := TX6) (N := 43) hx hb hts (fun w h => List.mem_cons_of_mem _ (inWX6 w h)) hown hK hP 45 at_45 rfl 13 (by decide) (hts _ (List.mem_cons_of_mem _ kw_t3_54)) (fun _ h9 => h9) rfl dX6_stranger_37 ?_
        refine lv_iload_n hx hb dX6_stranger_40 rfl (lv_at hl 2 rfl) ?_
        refine va_iald hx hb hK hP 50 0 at_50 rfl (kt_inN ex_3 (by omega) (by decide)) dX6_stranger_41 ?_
        refine lv_topi (fun t_12 et_12 => ?_)
        rw [ex_3, nI_clamp (by omega)] at et_12
        have hFc := mA_free (a := a) hS hA hAc
        refine va_calli (va_runS (As := [.int p3, .int 0, .int t_12]) (rest := []) ⟨hx, hb, hml, hown, hts⟩ (c_X6_isIn l dC dI cI cZ cS cC cJ a v_1 H.size p3 0 t_12 hD gn (by omega) hB.self) (va_cwS 3 hts (gS (fun w h => List.mem_cons_of_mem _ h) kw_t3_176 kw_t3_177 kw_t1_7 kw_t3_178) rfl rfl rfl (by decide +kernel) ⟨Nat.le_of_ble_eq_true rfl, Nat.le_of_ble_eq_true rfl⟩) ⟨fun av U g mk q => by obtain ⟨q0, q1, qP, qK, qN⟩ := q; exact ⟨q0, q1, qP, va_K.moved (u := U) (U := U.calling g mk av) (Vm.Alike.refl U.vm) qK, mN_same qN⟩, fun U hU hW => ⟨rfl, by rw [hU], by rw [hU]; exact hP, va_K.moved hW.alike hK, mN_warm hW hN⟩⟩ rfl rfl hl.1 rfl (lv_room (Nat.le_of_ble_eq_true rfl)) dX6_stranger_42 ⟨Nat.le_of_ble_eq_true rfl, Nat.le_of_ble_eq_true rfl⟩) hS (fun q _ h => hFc q h) hFc (fun r_13 _ t H locs ht hvm hw_13 hP _ _ hS => ?_)
        have hP := kt_heap2 ht hP
        clear ht hFc
        have hP : va_P (dC, dI) vwCl (mW cI cZ cS cC cJ a v_1) H := hP
        rcases hw_13 with ⟨hz_14, c_14a, c_14b⟩ | ⟨hz_14, c_14d⟩
        · subst hz_14
          refine lv_if_ne (tgt := 50) hx hb dX6_stranger_45 (by decide) (fun c_15 => ?_) (fun c_15 => absurd c_15 (by decide))
          refine lv_aload_n hx hb dX6_stranger_50 rfl (lv_at hl 0 rfl) ?_
          refine lv_iload_n hx hb dX6_stranger_51 rfl (lv_at hl 1 rfl) ?_
          refine lv_iload_n hx hb dX6_stranger_52 rfl (lv_at hl 2 rfl) ?_
          refine lv_iload_n hx hb dX6_stranger_53 rfl (lv_at hl 3 rfl) ?_
          refine lv_iload hx hb dX6_stranger_54 (lv_at hl 4 rfl) ?_
          refine lv_iconst (v := 1) hx hb dX6_stranger_56 (by decide) ?_
          have hFc := mA_free (a := a) hS hA hAc
          refine va_calli (va_runV (As := [.int p0, .int p1, .int p2, .int p3, .int 1]) (rest := []) ⟨hx, hb, hml, hown, hts⟩ (c_X6_asks l dC dI cI cZ cS cC cJ a v_1 H.size p0 p1 p2 p3 1 hD gn (by omega) hB.self hL ix_3 (by omega) ex_3 iy_3 (by omega) ey_3) (cwV 5 hts (gV (fun w h => List.mem_cons_of_mem _ h) kw_t4_32 kw_t4_34 kw_s0_24 kw_t1_7 kw_t4_35) rfl rfl rfl (by decide +kernel) ⟨Nat.le_of_ble_eq_true rfl, Nat.le_of_ble_eq_true rfl⟩) ⟨fun av U g mk q => by obtain ⟨q0, q1, qP, qK, qN⟩ := q; exact ⟨q0, q1, qP, va_K.moved (u := U) (U := U.calling g mk av) (Vm.Alike.refl U.vm) qK, mN_same qN⟩, va_recv hK hP (ci := 6) (q0 := 45) rfl at_45, fun U hU hW => ⟨rfl, by rw [hU], by rw [hU]; exact hP, va_K.moved hW.alike hK, mN_warm hW hN⟩⟩ rfl rfl hl.1 rfl (lv_room (Nat.le_of_ble_eq_true rfl)) dX6_stranger_57 ⟨Nat.le_of_ble_eq_true rfl, Nat.le_of_ble_eq_true rfl⟩) hS (fun q _ h => hFc q h) hFc (fun r_16 v_16 t H locs ht hvm hw_16 hP _ _ hS => ?_)
          have hP := kt_heap2 ht hP
          clear ht hFc
          have hP : va_P (dC, dI) vwCl (mW cI cZ cS cC cJ a v_16) H := hP
          have hB := hB.trans hw_16.1
          have hL := hw_16.2
          exact W.iret (v := r_16) hx hb hr (fun t ht hW => ⟨⟨r_16, v_16, rfl, ⟨hB, hL⟩, kt_heap ht hP⟩, hS.F ht⟩) hS.2.2 dX6_stranger_60
        · subst hz_14
          refine lv_if_ne (tgt := 50) hx hb dX6_stranger_45 (by decide) (fun c_17 => absurd (by decide) c_17) (fun c_17 => ?_)
          refine lv_iconst (v := (-1)) hx hb dX6_stranger_48 (by decide) ?_
          exact W.iret (v := (-1)) hx hb hr (fun t ht hW => ⟨⟨(-1), v_1, rfl, ⟨hB, hL⟩, kt_heap ht hP⟩, hS.F ht⟩) hS.2.2 dX6_stranger_49
      · subst hz_10
        refine lv_if_ne (tgt := 48) hx hb dX6_stranger_30 (by decide) (fun c_18 => ?_) (fun c_18 => absurd c_18 (by decide))
        refine lv_iconst (v := (-1)) hx hb dX6_stranger_48 (by decide) ?_
        exact W.iret (v := (-1)) hx hb hr (fun t ht hW => ⟨⟨(-1), v_1, rfl, ⟨hB, hL⟩, kt_heap ht hP⟩, hS.F ht⟩) hS.2.2 dX6_stranger_49
    · subst hz_7
      refine lv_if_eq (tgt := 48) hx hb dX6_stranger_21 (by decide) (fun c_19 => ?_) (fun c_19 => absurd (by decide) c_19)
      refine lv_iconst (v := (-1)) hx hb dX6_stranger_48 (by decide) ?_
      exact W.iret (v := (-1)) hx hb hr (fun t ht hW => ⟨⟨(-1), v_1, rfl, ⟨hB, hL⟩, kt_heap ht hP⟩, hS.F ht⟩) hS.2.2 dX6_stranger_49
