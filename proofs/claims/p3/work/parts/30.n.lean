set_option maxHeartbeats 4000000 in
set_option maxRecDepth 100000 in
theorem c_X6_hangs (l : Launch) (dC : Nat → ClassId) (dI : Nat → Nat → Nat) (cI cZ cS cC cJ : ClassId) (a : Nat → Nat) (v : Nat → Nat → Int32) (sz : Nat) (p0 p1 : Int32) (hD : mDD a) (gn : Nat) (hn : gn < 200000) (hB : rB gn v v) (hL : rL v) : Met l yX6_hangs (Cond.code yX6_hangs cX6_hangs 3 (some .boolean) :: WW) ({ frames := 1, cells := 0, slots := 0, locals := 30 }) (va_Pc [.ref (a 45), .int p0, .int p1] (fun U => U.heap.size = sz ∧ va_P (dC, dI) vwCl (mW cI cZ cS cC cJ a v) U.heap ∧ va_K (dC, dI) vwCl [(cI, .int), (cZ, .boolean), (cS, .object RX3), (cC, .object RX0), (cJ, .long)] U ∧ mN U)) (va_Qi (fun (r : Int32) (u : Nat → Nat → Int32) => (rB gn v u) ∧ (rL u) ∧ ((r = 0 ∨ r = 1) ∧ (r = 1 ↔ hgS (v 45 2) (fun x z => v 59 (12 * x + z) ≠ 0) p0 p1))) (fun (u : Nat → Nat → Int32) (t : State) => va_P (dC, dI) vwCl (mW cI cZ cS cC cJ a u) t.heap) (mA a sz)) 0 0 (mA a sz) := by
  refine Met.ofW (cc := cX6_hangs) (maxL := 3) (ret := (some .boolean)) (by decide) rfl ?_
  intro p e s m args below meth c s₁ B hml hv
  obtain ⟨rfl, hsz, hP, hK, hN⟩ := hv
  have hx := B.exec
  have hb := B.bytes
  have hr := B.returns
  have hts := atoms_spec (ws := Cond.code yX6_hangs cX6_hangs 3 (some .boolean) :: WW) B.pre
  have hown : s.vm.findClass RX6 = some m.cls := findClass_of_methodNamed B.named
  have hlocks := B.notSynchronized
  subst hsz
  have hAc : ∀ c, c < 81 → mA a s.heap.size (a c) := fun c h => Or.inl ⟨c, h, rfl⟩
  have hA : ∀ q : Nat, s.heap.size ≤ q → mA a s.heap.size q := fun q h => Or.inr h
  generalize hAe : mA a s.heap.size = A at hAc hA ⊢
  have hS : va_S A s.heap s.heap [] := va_S.rf
  have hl := lv_entry ([.ref (a 45), .int p0, .int p1]) (n := 3) (Nat.le_of_ble_eq_true rfl)
  rw [lg_entry_eq]
  generalize (lg_sl ([.ref (a 45), .int p0, .int p1]) ++ List.replicate (3 - (lg_sl ([.ref (a 45), .int p0, .int p1])).length) Slot.unset).toArray = ls at hl ⊢
  have hl : lv_has ls 3 [(0, .ref (a 45)), (1, .int p0), (2, .int p1)] := hl
  refine lv_aload_n hx hb dX6_hangs_0 rfl (lv_at hl 0 rfl) ?_
  refine lv_iconst (v := 0) hx hb dX6_hangs_1 (by decide) ?_
  refine va_put (D := (dC, dI)) (ci := 6) (v := .int 0) (ty := .int) (C := RX6) (T := TX6) (N := 43) hx hb hts (fun w h => List.mem_cons_of_mem _ (inWX6 w h)) tyX6 tyX6_ok nmX6 hown hK hP (mD_of hD hAc) hS 45 at_45 rfl 0 (by decide) (hts _ (List.mem_cons_of_mem _ kw_t3_41)) (fun _ h9 => h9) rfl (by decide +kernel) rfl rfl (Nat.le_of_ble_eq_true rfl) dX6_hangs_2 (fun H locs hP _ hS => ?_)
  obtain ⟨v_1, ev_1⟩ : ∃ z, z = mU v 45 (upd (v 45) 0 0) := ⟨_, rfl⟩
  have hP : va_P (dC, dI) vwCl (mW cI cZ cS cC cJ a v_1) H := by rw [ev_1]; exact mW_put hP (by omega) rfl
  have hB := hB.putO ev_1 (by decide)
  have hL := hL.putM ev_1 (by decide)
  refine lv_aload_n hx hb dX6_hangs_5 rfl (lv_at hl 0 rfl) ?_
  refine lv_iload_n hx hb dX6_hangs_6 rfl (lv_at hl 1 rfl) ?_
  have hFc := mA_free (a := a) hS hA hAc
  refine va_calli (va_runV (As := [.int p0]) (rest := []) ⟨hx, hb, hml, hown, hts⟩ (c_X6_isSecret l dC dI cI cZ cS cC cJ a v_1 H.size p0 hD gn (by omega) hB.self) (cwV 1 hts (gV (fun w h => List.mem_cons_of_mem _ h) kw_t3_183 kw_t3_185 kw_s0_12 kw_t1_7 kw_t3_186) rfl rfl rfl (by decide +kernel) ⟨Nat.le_of_ble_eq_true rfl, Nat.le_of_ble_eq_true rfl⟩) ⟨fun av U g mk q => by obtain ⟨q0, q1, qP, qK, qN⟩ := q; exact ⟨q0, q1, qP, va_K.moved (u := U) (U := U.calling g mk av) (Vm.Alike.refl U.vm) qK, mN_same qN⟩, va_recv hK hP (ci := 6) (q0 := 45) rfl at_45, fun U hU hW => ⟨rfl, by rw [hU], by rw [hU]; exact hP, va_K.moved hW.alike hK, mN_warm hW hN⟩⟩ rfl rfl hl.1 rfl (lv_room (Nat.le_of_ble_eq_true rfl)) dX6_hangs_7 ⟨Nat.le_of_ble_eq_true rfl, Nat.le_of_ble_eq_true rfl⟩) hS (fun q _ h => hFc q h) hFc (fun r_2 _ t H locs ht hvm hw_2 hP _ _ hS => ?_)
  have hP := kt_heap2 ht hP
  clear ht hFc
  have hP : va_P (dC, dI) vwCl (mW cI cZ cS cC cJ a v_1) H := hP
  rcases hw_2 with ⟨hz_3, hns_3⟩ | ⟨hz_3, ix_3, hx_3, ex_3, hlt_3⟩
  · subst hz_3
    refine lv_if_eq (tgt := 34) hx hb dX6_hangs_10 (by decide) (fun c_4 => ?_) (fun c_4 => absurd (by decide) c_4)
    refine lv_iconst (v := 0) hx hb dX6_hangs_34 (by decide) ?_
    have e29 : v_1 45 2 = v 45 2 := by rw [ev_1, mU_self]; rfl
    have e99 : v 59 = v_1 59 := Eq.symm (by rw [ev_1, mU_ne _ _ (by first | decide | omega)])
    exact W.zret (v := 0) (ty := .boolean) hx hb hr rfl (fun t ht hW => ⟨⟨0, v_1, rfl, ⟨hB, hL, ⟨Or.inl rfl, ⟨fun z => absurd z (by decide), fun z => absurd z.1 (by rw [← e29]; exact hns_3)⟩⟩⟩, kt_heap ht hP⟩, hS.F ht⟩) hS.2.2 dX6_hangs_35
  · subst hz_3
    refine lv_if_eq (tgt := 34) hx hb dX6_hangs_10 (by decide) (fun c_5 => absurd c_5 (by decide)) (fun c_5 => ?_)
    refine lv_aload_n hx hb dX6_hangs_13 rfl (lv_at hl 0 rfl) ?_
    refine lv_iload_n hx hb dX6_hangs_14 rfl (lv_at hl 2 rfl) ?_
    have hFc := mA_free (a := a) hS hA hAc
    refine va_calli (va_runV (As := [.int p1]) (rest := []) ⟨hx, hb, hml, hown, hts⟩ (c_X6_isSecret l dC dI cI cZ cS cC cJ a v_1 H.size p1 hD gn (by omega) hB.self) (cwV 1 hts (gV (fun w h => List.mem_cons_of_mem _ h) kw_t3_183 kw_t3_185 kw_s0_12 kw_t1_7 kw_t3_186) rfl rfl rfl (by decide +kernel) ⟨Nat.le_of_ble_eq_true rfl, Nat.le_of_ble_eq_true rfl⟩) ⟨fun av U g mk q => by obtain ⟨q0, q1, qP, qK, qN⟩ := q; exact ⟨q0, q1, qP, va_K.moved (u := U) (U := U.calling g mk av) (Vm.Alike.refl U.vm) qK, mN_same qN⟩, va_recv hK hP (ci := 6) (q0 := 45) rfl at_45, fun U hU hW => ⟨rfl, by rw [hU], by rw [hU]; exact hP, va_K.moved hW.alike hK, mN_warm hW hN⟩⟩ rfl rfl hl.1 rfl (lv_room (Nat.le_of_ble_eq_true rfl)) dX6_hangs_15 ⟨Nat.le_of_ble_eq_true rfl, Nat.le_of_ble_eq_true rfl⟩) hS (fun q _ h => hFc q h) hFc (fun r_6 _ t H locs ht hvm hw_6 hP _ _ hS => ?_)
    have hP := kt_heap2 ht hP
    clear ht hFc
    have hP : va_P (dC, dI) vwCl (mW cI cZ cS cC cJ a v_1) H := hP
    rcases hw_6 with ⟨hz_7, hns_7⟩ | ⟨hz_7, ix_7, hx_7, ex_7, hlt_7⟩
    · subst hz_7
      refine lv_if_eq (tgt := 34) hx hb dX6_hangs_18 (by decide) (fun c_8 => ?_) (fun c_8 => absurd (by decide) c_8)
      refine lv_iconst (v := 0) hx hb dX6_hangs_34 (by decide) ?_
      have e29 : v_1 45 2 = v 45 2 := by rw [ev_1, mU_self]; rfl
      have e99 : v 59 = v_1 59 := Eq.symm (by rw [ev_1, mU_ne _ _ (by first | decide | omega)])
      exact W.zret (v := 0) (ty := .boolean) hx hb hr rfl (fun t ht hW => ⟨⟨0, v_1, rfl, ⟨hB, hL, ⟨Or.inl rfl, ⟨fun z => absurd z (by decide), fun z => absurd z.2.1 (by rw [← e29]; exact hns_7)⟩⟩⟩, kt_heap ht hP⟩, hS.F ht⟩) hS.2.2 dX6_hangs_35
    · subst hz_7
      refine lv_if_eq (tgt := 34) hx hb dX6_hangs_18 (by decide) (fun c_9 => absurd c_9 (by decide)) (fun c_9 => ?_)
      refine lv_aload_n hx hb dX6_hangs_21 rfl (lv_at hl 0 rfl) ?_
      refine lv_iload_n hx hb dX6_hangs_22 rfl (lv_at hl 1 rfl) ?_
      refine lv_iload_n hx hb dX6_hangs_23 rfl (lv_at hl 2 rfl) ?_
      have hFc := mA_free (a := a) hS hA hAc
      refine va_calli (va_runV (As := [.int p0, .int p1]) (rest := []) ⟨hx, hb, hml, hown, hts⟩ (c_X6_hangsOn l dC dI cI cZ cS cC cJ a v_1 H.size p0 p1 hD gn (by omega) hB.self ix_3 (by omega) ex_3 ix_7 (by omega) ex_7) (cwV 2 hts (gV (fun w h => List.mem_cons_of_mem _ h) kw_t3_187 kw_t3_189 kw_s0_13 kw_t1_7 kw_t3_190) rfl rfl rfl (by decide +kernel) ⟨Nat.le_of_ble_eq_true rfl, Nat.le_of_ble_eq_true rfl⟩) ⟨fun av U g mk q => by obtain ⟨q0, q1, qP, qK, qN⟩ := q; exact ⟨q0, q1, qP, va_K.moved (u := U) (U := U.calling g mk av) (Vm.Alike.refl U.vm) qK, mN_same qN⟩, va_recv hK hP (ci := 6) (q0 := 45) rfl at_45, fun U hU hW => ⟨rfl, by rw [hU], by rw [hU]; exact hP, va_K.moved hW.alike hK, mN_warm hW hN⟩⟩ rfl rfl hl.1 rfl (lv_room (Nat.le_of_ble_eq_true rfl)) dX6_hangs_24 ⟨Nat.le_of_ble_eq_true rfl, Nat.le_of_ble_eq_true rfl⟩) hS (fun q _ h => hFc q h) hFc (fun r_10 v_10 t H locs ht hvm hw_10 hP _ _ hS => ?_)
      have hP := kt_heap2 ht hP
      clear ht hFc
      have hP : va_P (dC, dI) vwCl (mW cI cZ cS cC cJ a v_10) H := hP
      have ev_10 := kt_only hw_10.1
      have hB := hB.put ev_10 (by decide)
      have hL := hL.put ev_10 (by decide)
      refine lv_if_eq (tgt := 34) hx hb dX6_hangs_27 (by decide) (fun c_11 => ?_) (fun c_11 => ?_)
      · refine lv_iconst (v := 0) hx hb dX6_hangs_34 (by decide) ?_
        have e29 : v_1 45 2 = v 45 2 := by rw [ev_1, mU_self]; rfl
        have e99 : v 59 = v_1 59 := Eq.symm (by rw [ev_1, mU_ne _ _ (by first | decide | omega)])
        have ck0 : ck p0 = ix_3 := ck_of ex_3 (by omega)
        have ck1 : ck p1 = ix_7 := ck_of ex_7 (by omega)
        have is0 : isS (v 45 2) p0 := isS_of ex_3 (by omega) (by rw [← e29]; exact hlt_3)
        have is1 : isS (v 45 2) p1 := isS_of ex_7 (by omega) (by rw [← e29]; exact hlt_7)
        exact W.zret (v := 0) (ty := .boolean) hx hb hr rfl (fun t ht hW => ⟨⟨0, v_10, rfl, ⟨hB, hL, ⟨Or.inl rfl, ⟨fun z => absurd z (by decide), fun z => absurd (hw_10.2.2.2.2.mpr (by have z9 := z.2.2; rw [ck0, ck1, e99] at z9; exact z9)) (by rw [c_11]; decide)⟩⟩⟩, kt_heap ht hP⟩, hS.F ht⟩) hS.2.2 dX6_hangs_35
      · refine lv_iconst (v := 1) hx hb dX6_hangs_30 (by decide) ?_
        refine lv_goto (tgt := 35) hx hb dX6_hangs_31 (by decide) ?_
        have e29 : v_1 45 2 = v 45 2 := by rw [ev_1, mU_self]; rfl
        have e99 : v 59 = v_1 59 := Eq.symm (by rw [ev_1, mU_ne _ _ (by first | decide | omega)])
        have ck0 : ck p0 = ix_3 := ck_of ex_3 (by omega)
        have ck1 : ck p1 = ix_7 := ck_of ex_7 (by omega)
        have is0 : isS (v 45 2) p0 := isS_of ex_3 (by omega) (by rw [← e29]; exact hlt_3)
        have is1 : isS (v 45 2) p1 := isS_of ex_7 (by omega) (by rw [← e29]; exact hlt_7)
        exact W.zret (v := 1) (ty := .boolean) hx hb hr rfl (fun t ht hW => ⟨⟨1, v_10, rfl, ⟨hB, hL, ⟨Or.inr rfl, ⟨fun _ => ⟨is0, is1, by rw [ck0, ck1, e99]; exact hw_10.2.2.2.2.mp (hw_10.2.2.1.resolve_left c_11)⟩, fun _ => rfl⟩⟩⟩, kt_heap ht hP⟩, hS.F ht⟩) hS.2.2 dX6_hangs_35

set_option maxHeartbeats 4000000 in
set_option maxRecDepth 100000 in
theorem c_X6_needs (l : Launch) (dC : Nat → ClassId) (dI : Nat → Nat → Nat) (cI cZ cS cC cJ : ClassId) (a : Nat → Nat) (v : Nat → Nat → Int32) (sz : Nat) (p0 p1 p2 : Int32) (hD : mDD a) (gn : Nat) (hn : gn < 200000) (hB : rB gn v v) (hL : rL v) : Met l yX6_needs (Cond.code yX6_needs cX6_needs 4 (some .boolean) :: WW) ({ frames := 1, cells := 0, slots := 0, locals := 30 }) (va_Pc [.ref (a 45), .int p0, .int p1, .int p2] (fun U => U.heap.size = sz ∧ va_P (dC, dI) vwCl (mW cI cZ cS cC cJ a v) U.heap ∧ va_K (dC, dI) vwCl [(cI, .int), (cZ, .boolean), (cS, .object RX3), (cC, .object RX0), (cJ, .long)] U ∧ mN U)) (va_Qi (fun (r : Int32) (u : Nat → Nat → Int32) => (rA gn v u) ∧ (rL u) ∧ ((u 45 1 = v 45 1 ∧ u 45 2 = v 45 2 ∧ u 60 = v 60) ∧ ((r = 0 ∧ u 59 = v 59 ∧ ¬ okR (v 45 2) (v 59) p0 p1 p2) ∨ (r = 1 ∧ okR (v 45 2) (v 59) p0 p1 p2 ∧ u 59 = upd (v 59) (12 * ck p0 + ck p1) (vp_nar .boolean p2))))) (fun (u : Nat → Nat → Int32) (t : State) => va_P (dC, dI) vwCl (mW cI cZ cS cC cJ a u) t.heap) (mA a sz)) 0 0 (mA a sz) := by
  refine Met.ofW (cc := cX6_needs) (maxL := 4) (ret := (some .boolean)) (by decide) rfl ?_
  intro p e s m args below meth c s₁ B hml hv
  obtain ⟨rfl, hsz, hP, hK, hN⟩ := hv
  have hx := B.exec
  have hb := B.bytes
  have hr := B.returns
  have hts := atoms_spec (ws := Cond.code yX6_needs cX6_needs 4 (some .boolean) :: WW) B.pre
  have hown : s.vm.findClass RX6 = some m.cls := findClass_of_methodNamed B.named
  have hlocks := B.notSynchronized
  subst hsz
  have hAc : ∀ c, c < 81 → mA a s.heap.size (a c) := fun c h => Or.inl ⟨c, h, rfl⟩
  have hA : ∀ q : Nat, s.heap.size ≤ q → mA a s.heap.size q := fun q h => Or.inr h
  generalize hAe : mA a s.heap.size = A at hAc hA ⊢
  have hS : va_S A s.heap s.heap [] := va_S.rf
  have hl := lv_entry ([.ref (a 45), .int p0, .int p1, .int p2]) (n := 4) (Nat.le_of_ble_eq_true rfl)
  rw [lg_entry_eq]
  generalize (lg_sl ([.ref (a 45), .int p0, .int p1, .int p2]) ++ List.replicate (4 - (lg_sl ([.ref (a 45), .int p0, .int p1, .int p2])).length) Slot.unset).toArray = ls at hl ⊢
  have hl : lv_has ls 4 [(0, .ref (a 45)), (1, .int p0), (2, .int p1), (3, .int p2)] := hl
  have hB := hB.toA
  refine lv_aload_n hx hb dX6_needs_0 rfl (lv_at hl 0 rfl) ?_
  refine lv_iconst (v := 0) hx hb dX6_needs_1 (by decide) ?_
  refine va_put (D := (dC, dI)) (ci := 6) (v := .int 0) (ty := .int) (C := RX6) (T := TX6) (N := 43) hx hb hts (fun w h => List.mem_cons_of_mem _ (inWX6 w h)) tyX6 tyX6_ok nmX6 hown hK hP (mD_of hD hAc) hS 45 at_45 rfl 0 (by decide) (hts _ (List.mem_cons_of_mem _ kw_t3_41)) (fun _ h9 => h9) rfl (by decide +kernel) rfl rfl (Nat.le_of_ble_eq_true rfl) dX6_needs_2 (fun H locs hP _ hS => ?_)
  obtain ⟨v_1, ev_1⟩ : ∃ z, z = mU v 45 (upd (v 45) 0 0) := ⟨_, rfl⟩
  have hP : va_P (dC, dI) vwCl (mW cI cZ cS cC cJ a v_1) H := by rw [ev_1]; exact mW_put hP (by omega) rfl
  have hB := hB.putO ev_1 (by decide)
  have hL := hL.putM ev_1 (by decide)
  refine lv_aload_n hx hb dX6_needs_5 rfl (lv_at hl 0 rfl) ?_
  refine lv_iload_n hx hb dX6_needs_6 rfl (lv_at hl 1 rfl) ?_
  have hFc := mA_free (a := a) hS hA hAc
  refine va_calli (va_runV (As := [.int p0]) (rest := []) ⟨hx, hb, hml, hown, hts⟩ (c_X6_isSecret l dC dI cI cZ cS cC cJ a v_1 H.size p0 hD gn (by omega) hB.self) (cwV 1 hts (gV (fun w h => List.mem_cons_of_mem _ h) kw_t3_183 kw_t3_185 kw_s0_12 kw_t1_7 kw_t3_186) rfl rfl rfl (by decide +kernel) ⟨Nat.le_of_ble_eq_true rfl, Nat.le_of_ble_eq_true rfl⟩) ⟨fun av U g mk q => by obtain ⟨q0, q1, qP, qK, qN⟩ := q; exact ⟨q0, q1, qP, va_K.moved (u := U) (U := U.calling g mk av) (Vm.Alike.refl U.vm) qK, mN_same qN⟩, va_recv hK hP (ci := 6) (q0 := 45) rfl at_45, fun U hU hW => ⟨rfl, by rw [hU], by rw [hU]; exact hP, va_K.moved hW.alike hK, mN_warm hW hN⟩⟩ rfl rfl hl.1 rfl (lv_room (Nat.le_of_ble_eq_true rfl)) dX6_needs_7 ⟨Nat.le_of_ble_eq_true rfl, Nat.le_of_ble_eq_true rfl⟩) hS (fun q _ h => hFc q h) hFc (fun r_2 _ t H locs ht hvm hw_2 hP _ _ hS => ?_)
  have hP := kt_heap2 ht hP
  clear ht hFc
  have hP : va_P (dC, dI) vwCl (mW cI cZ cS cC cJ a v_1) H := hP
  rcases hw_2 with ⟨hz_3, hns_3⟩ | ⟨hz_3, ix_3, hx_3, ex_3, hlt_3⟩
  · subst hz_3
    refine lv_if_eq (tgt := 54) hx hb dX6_needs_10 (by decide) (fun c_4 => ?_) (fun c_4 => absurd (by decide) c_4)
    refine lv_iconst (v := 0) hx hb dX6_needs_54 (by decide) ?_
    have e29 : v_1 45 2 = v 45 2 := by rw [ev_1, mU_self]; rfl
    have e99 : v 59 = v_1 59 := Eq.symm (by rw [ev_1, mU_ne _ _ (by first | decide | omega)])
    exact W.zret (v := 0) (ty := .boolean) hx hb hr rfl (fun t ht hW => ⟨⟨0, v_1, rfl, ⟨hB, hL, ⟨⟨by rw [ev_1, mU_self]; rfl, by rw [ev_1, mU_self]; rfl, (by rw [ev_1, mU_ne _ _ (by first | decide | omega)])⟩, Or.inl ⟨rfl, (by rw [ev_1, mU_ne _ _ (by first | decide | omega)]), fun z => absurd z.1 (by rw [← e29]; exact hns_3)⟩⟩⟩, kt_heap ht hP⟩, hS.F ht⟩) hS.2.2 dX6_needs_55
  · subst hz_3
    refine lv_if_eq (tgt := 54) hx hb dX6_needs_10 (by decide) (fun c_5 => absurd c_5 (by decide)) (fun c_5 => ?_)
    refine lv_aload_n hx hb dX6_needs_13 rfl (lv_at hl 0 rfl) ?_
    refine lv_iload_n hx hb dX6_needs_14 rfl (lv_at hl 2 rfl) ?_
    have hFc := mA_free (a := a) hS hA hAc
    refine va_calli (va_runV (As := [.int p1]) (rest := []) ⟨hx, hb, hml, hown, hts⟩ (c_X6_isSecret l dC dI cI cZ cS cC cJ a v_1 H.size p1 hD gn (by omega) hB.self) (cwV 1 hts (gV (fun w h => List.mem_cons_of_mem _ h) kw_t3_183 kw_t3_185 kw_s0_12 kw_t1_7 kw_t3_186) rfl rfl rfl (by decide +kernel) ⟨Nat.le_of_ble_eq_true rfl, Nat.le_of_ble_eq_true rfl⟩) ⟨fun av U g mk q => by obtain ⟨q0, q1, qP, qK, qN⟩ := q; exact ⟨q0, q1, qP, va_K.moved (u := U) (U := U.calling g mk av) (Vm.Alike.refl U.vm) qK, mN_same qN⟩, va_recv hK hP (ci := 6) (q0 := 45) rfl at_45, fun U hU hW => ⟨rfl, by rw [hU], by rw [hU]; exact hP, va_K.moved hW.alike hK, mN_warm hW hN⟩⟩ rfl rfl hl.1 rfl (lv_room (Nat.le_of_ble_eq_true rfl)) dX6_needs_15 ⟨Nat.le_of_ble_eq_true rfl, Nat.le_of_ble_eq_true rfl⟩) hS (fun q _ h => hFc q h) hFc (fun r_6 _ t H locs ht hvm hw_6 hP _ _ hS => ?_)
    have hP := kt_heap2 ht hP
    clear ht hFc
    have hP : va_P (dC, dI) vwCl (mW cI cZ cS cC cJ a v_1) H := hP
    rcases hw_6 with ⟨hz_7, hns_7⟩ | ⟨hz_7, ix_7, hx_7, ex_7, hlt_7⟩
    · subst hz_7
      refine lv_if_eq (tgt := 54) hx hb dX6_needs_18 (by decide) (fun c_8 => ?_) (fun c_8 => absurd (by decide) c_8)
      refine lv_iconst (v := 0) hx hb dX6_needs_54 (by decide) ?_
      have e29 : v_1 45 2 = v 45 2 := by rw [ev_1, mU_self]; rfl
      have e99 : v 59 = v_1 59 := Eq.symm (by rw [ev_1, mU_ne _ _ (by first | decide | omega)])
      exact W.zret (v := 0) (ty := .boolean) hx hb hr rfl (fun t ht hW => ⟨⟨0, v_1, rfl, ⟨hB, hL, ⟨⟨by rw [ev_1, mU_self]; rfl, by rw [ev_1, mU_self]; rfl, (by rw [ev_1, mU_ne _ _ (by first | decide | omega)])⟩, Or.inl ⟨rfl, (by rw [ev_1, mU_ne _ _ (by first | decide | omega)]), fun z => absurd z.2.1 (by rw [← e29]; exact hns_7)⟩⟩⟩, kt_heap ht hP⟩, hS.F ht⟩) hS.2.2 dX6_needs_55
    · subst hz_7
      refine lv_if_eq (tgt := 54) hx hb dX6_needs_18 (by decide) (fun c_9 => absurd c_9 (by decide)) (fun c_9 => ?_)
      refine lv_aload_n hx hb dX6_needs_21 rfl (lv_at hl 0 rfl) ?_
      refine va_get (D := (dC, dI)) (ci := 6) (v := .ref (a 59)) (C := RX6) (T := TX6) (N := 43) hx hb hts (fun w h => List.mem_cons_of_mem _ (inWX6 w h)) hown hK hP 45 at_45 rfl 22 (by decide) (hts _ (List.mem_cons_of_mem _ kw_t3_63)) (fun _ h9 => h9) rfl dX6_needs_22 ?_
      refine lv_bipush (v := 12) hx hb dX6_needs_25 (by decide) ?_
      refine lv_iload_n hx hb dX6_needs_27 rfl (lv_at hl 1 rfl) ?_
      refine lv_imul hx hb dX6_needs_28 ?_
      refine lv_topi (fun t_10 et_10 => ?_)
      refine lv_iload_n hx hb dX6_needs_29 rfl (lv_at hl 2 rfl) ?_
      refine lv_iadd hx hb dX6_needs_30 ?_
      refine lv_topi (fun t_11 et_11 => ?_)
      have hm_12 : t_11 = nI (12 * ix_3 + ix_7) := kt_mad (C := 12) rfl ex_3 ex_7 et_10 et_11
      refine va_zald hx hb hK hP 59 1 at_59 rfl (kt_inN hm_12 (by omega) (by decide)) dX6_needs_31 ?_
      refine lv_topi (fun t_13 et_13 => ?_)
      rw [hm_12, nI_clamp (by omega)] at et_13
      refine lv_iload_n hx hb dX6_needs_32 rfl (lv_at hl 3 rfl) ?_
      refine lv_icmp_eq (tgt := 54) hx hb dX6_needs_33 (by decide) (fun c_14 => ?_) (fun c_14 => ?_)
      · refine lv_iconst (v := 0) hx hb dX6_needs_54 (by decide) ?_
        have e29 : v_1 45 2 = v 45 2 := by rw [ev_1, mU_self]; rfl
        have e99 : v 59 = v_1 59 := Eq.symm (by rw [ev_1, mU_ne _ _ (by first | decide | omega)])
        have ck0 : ck p0 = ix_3 := ck_of ex_3 (by omega)
        have ck1 : ck p1 = ix_7 := ck_of ex_7 (by omega)
        have is0 : isS (v 45 2) p0 := isS_of ex_3 (by omega) (by rw [← e29]; exact hlt_3)
        have is1 : isS (v 45 2) p1 := isS_of ex_7 (by omega) (by rw [← e29]; exact hlt_7)
        exact W.zret (v := 0) (ty := .boolean) hx hb hr rfl (fun t ht hW => ⟨⟨0, v_1, rfl, ⟨hB, hL, ⟨⟨by rw [ev_1, mU_self]; rfl, by rw [ev_1, mU_self]; rfl, (by rw [ev_1, mU_ne _ _ (by first | decide | omega)])⟩, Or.inl ⟨rfl, (by rw [ev_1, mU_ne _ _ (by first | decide | omega)]), fun z => z.2.2.1 (by rw [ck0, ck1, e99, ← et_13]; exact c_14)⟩⟩⟩, kt_heap ht hP⟩, hS.F ht⟩) hS.2.2 dX6_needs_55
      · refine lv_iload_n hx hb dX6_needs_36 rfl (lv_at hl 3 rfl) ?_
        refine lv_if_eq (tgt := 56) hx hb dX6_needs_37 (by decide) (fun c_15 => ?_) (fun c_15 => ?_)
        · refine lv_aload_n hx hb dX6_needs_56 rfl (lv_at hl 0 rfl) ?_
          refine va_get (D := (dC, dI)) (ci := 6) (v := .ref (a 59)) (C := RX6) (T := TX6) (N := 43) hx hb hts (fun w h => List.mem_cons_of_mem _ (inWX6 w h)) hown hK hP 45 at_45 rfl 22 (by decide) (hts _ (List.mem_cons_of_mem _ kw_t3_63)) (fun _ h9 => h9) rfl dX6_needs_57 ?_
          refine lv_bipush (v := 12) hx hb dX6_needs_60 (by decide) ?_
          refine lv_iload_n hx hb dX6_needs_62 rfl (lv_at hl 1 rfl) ?_
          refine lv_imul hx hb dX6_needs_63 ?_
          refine lv_topi (fun t_16 et_16 => ?_)
          refine lv_iload_n hx hb dX6_needs_64 rfl (lv_at hl 2 rfl) ?_
          refine lv_iadd hx hb dX6_needs_65 ?_
          refine lv_topi (fun t_17 et_17 => ?_)
          refine lv_iload_n hx hb dX6_needs_66 rfl (lv_at hl 3 rfl) ?_
          have hm_18 : t_17 = nI (12 * ix_3 + ix_7) := kt_mad (C := 12) rfl ex_3 ex_7 et_16 et_17
          refine va_zast hx hb hK hP (mD_of hD hAc) hS 59 1 at_59 rfl (kt_inN hm_18 (by omega) (by decide)) dX6_needs_67 (fun H locs hP _ hS => ?_)
          obtain ⟨v_19, ev_19⟩ : ∃ z, z = mU v_1 59 (upd (v_1 59) (12 * ix_3 + ix_7) (vp_nar .boolean p2)) := ⟨_, rfl⟩
          have hP : va_P (dC, dI) vwCl (mW cI cZ cS cC cJ a v_19) H := by rw [ev_19]; exact mW_put hP (by omega) (by rw [hm_18, nI_clamp (by omega)]; rfl)
          have hB := hB.put59 ev_19 (by rw [show vp_nar .boolean p2 = 0 by rw [c_15]; rfl]; exact hB.nd.del _)
          have hL := hL.put ev_19 (by decide)
          refine lv_iconst (v := 1) hx hb dX6_needs_68 (by decide) ?_
          have e29 : v_1 45 2 = v 45 2 := by rw [ev_1, mU_self]; rfl
          have e99 : v 59 = v_1 59 := Eq.symm (by rw [ev_1, mU_ne _ _ (by first | decide | omega)])
          have ck0 : ck p0 = ix_3 := ck_of ex_3 (by omega)
          have ck1 : ck p1 = ix_7 := ck_of ex_7 (by omega)
          have is0 : isS (v 45 2) p0 := isS_of ex_3 (by omega) (by rw [← e29]; exact hlt_3)
          have is1 : isS (v 45 2) p1 := isS_of ex_7 (by omega) (by rw [← e29]; exact hlt_7)
          exact W.zret (v := 1) (ty := .boolean) hx hb hr rfl (fun t ht hW => ⟨⟨1, v_19, rfl, ⟨hB, hL, ⟨⟨by rw [ev_19, mU_ne _ _ (by decide), ev_1, mU_self]; rfl, by rw [ev_19, mU_ne _ _ (by decide), ev_1, mU_self]; rfl, (by rw [ev_19, mU_ne _ _ (by first | decide | omega), ev_1, mU_ne _ _ (by first | decide | omega)])⟩, Or.inr ⟨rfl, ⟨is0, is1, fun z => c_14 (by rw [et_13, ← e99, ← ck0, ← ck1]; exact z), fun z => absurd c_15 z⟩, by rw [ev_19, mU_self, show v_1 59 = v 59 from (by rw [ev_1, mU_ne _ _ (by first | decide | omega)]), ck0, ck1]⟩⟩⟩, kt_heap ht hP⟩, hS.F ht⟩) hS.2.2 dX6_needs_69
        · refine lv_iload_n hx hb dX6_needs_40 rfl (lv_at hl 1 rfl) ?_
          refine lv_iload_n hx hb dX6_needs_41 rfl (lv_at hl 2 rfl) ?_
          refine lv_icmp_eq (tgt := 54) hx hb dX6_needs_42 (by decide) (fun c_20 => ?_) (fun c_20 => ?_)
          · refine lv_iconst (v := 0) hx hb dX6_needs_54 (by decide) ?_
            have e29 : v_1 45 2 = v 45 2 := by rw [ev_1, mU_self]; rfl
            have e99 : v 59 = v_1 59 := Eq.symm (by rw [ev_1, mU_ne _ _ (by first | decide | omega)])
            have ck0 : ck p0 = ix_3 := ck_of ex_3 (by omega)
            have ck1 : ck p1 = ix_7 := ck_of ex_7 (by omega)
            have is0 : isS (v 45 2) p0 := isS_of ex_3 (by omega) (by rw [← e29]; exact hlt_3)
            have is1 : isS (v 45 2) p1 := isS_of ex_7 (by omega) (by rw [← e29]; exact hlt_7)
            exact W.zret (v := 0) (ty := .boolean) hx hb hr rfl (fun t ht hW => ⟨⟨0, v_1, rfl, ⟨hB, hL, ⟨⟨by rw [ev_1, mU_self]; rfl, by rw [ev_1, mU_self]; rfl, (by rw [ev_1, mU_ne _ _ (by first | decide | omega)])⟩, Or.inl ⟨rfl, (by rw [ev_1, mU_ne _ _ (by first | decide | omega)]), fun z => (z.2.2.2 c_15).1 c_20⟩⟩⟩, kt_heap ht hP⟩, hS.F ht⟩) hS.2.2 dX6_needs_55
          · refine lv_aload_n hx hb dX6_needs_45 rfl (lv_at hl 0 rfl) ?_
            refine lv_iload_n hx hb dX6_needs_46 rfl (lv_at hl 2 rfl) ?_
            refine lv_iload_n hx hb dX6_needs_47 rfl (lv_at hl 1 rfl) ?_
            have hFc := mA_free (a := a) hS hA hAc
            refine va_calli (va_runV (As := [.int p1, .int p0]) (rest := []) ⟨hx, hb, hml, hown, hts⟩ (c_X6_hangsOn l dC dI cI cZ cS cC cJ a v_1 H.size p1 p0 hD gn (by omega) hB.self ix_7 (by omega) ex_7 ix_3 (by omega) ex_3) (cwV 2 hts (gV (fun w h => List.mem_cons_of_mem _ h) kw_t3_187 kw_t3_189 kw_s0_13 kw_t1_7 kw_t3_190) rfl rfl rfl (by decide +kernel) ⟨Nat.le_of_ble_eq_true rfl, Nat.le_of_ble_eq_true rfl⟩) ⟨fun av U g mk q => by obtain ⟨q0, q1, qP, qK, qN⟩ := q; exact ⟨q0, q1, qP, va_K.moved (u := U) (U := U.calling g mk av) (Vm.Alike.refl U.vm) qK, mN_same qN⟩, va_recv hK hP (ci := 6) (q0 := 45) rfl at_45, fun U hU hW => ⟨rfl, by rw [hU], by rw [hU]; exact hP, va_K.moved hW.alike hK, mN_warm hW hN⟩⟩ rfl rfl hl.1 rfl (lv_room (Nat.le_of_ble_eq_true rfl)) dX6_needs_48 ⟨Nat.le_of_ble_eq_true rfl, Nat.le_of_ble_eq_true rfl⟩) hS (fun q _ h => hFc q h) hFc (fun r_21 v_21 t H locs ht hvm hw_21 hP _ _ hS => ?_)
            have hP := kt_heap2 ht hP
            clear ht hFc
            have hP : va_P (dC, dI) vwCl (mW cI cZ cS cC cJ a v_21) H := hP
            have ev_21 := kt_only hw_21.1
            have hB := hB.put ev_21 (by decide)
            have hL := hL.put ev_21 (by decide)
            refine lv_if_eq (tgt := 56) hx hb dX6_needs_51 (by decide) (fun c_22 => ?_) (fun c_22 => ?_)
            · refine lv_aload_n hx hb dX6_needs_56 rfl (lv_at hl 0 rfl) ?_
              refine va_get (D := (dC, dI)) (ci := 6) (v := .ref (a 59)) (C := RX6) (T := TX6) (N := 43) hx hb hts (fun w h => List.mem_cons_of_mem _ (inWX6 w h)) hown hK hP 45 at_45 rfl 22 (by decide) (hts _ (List.mem_cons_of_mem _ kw_t3_63)) (fun _ h9 => h9) rfl dX6_needs_57 ?_
              refine lv_bipush (v := 12) hx hb dX6_needs_60 (by decide) ?_
              refine lv_iload_n hx hb dX6_needs_62 rfl (lv_at hl 1 rfl) ?_
              refine lv_imul hx hb dX6_needs_63 ?_
              refine lv_topi (fun t_23 et_23 => ?_)
              refine lv_iload_n hx hb dX6_needs_64 rfl (lv_at hl 2 rfl) ?_
              refine lv_iadd hx hb dX6_needs_65 ?_
              refine lv_topi (fun t_24 et_24 => ?_)
              refine lv_iload_n hx hb dX6_needs_66 rfl (lv_at hl 3 rfl) ?_
              have hm_25 : t_24 = nI (12 * ix_3 + ix_7) := kt_mad (C := 12) rfl ex_3 ex_7 et_23 et_24
              refine va_zast hx hb hK hP (mD_of hD hAc) hS 59 1 at_59 rfl (kt_inN hm_25 (by omega) (by decide)) dX6_needs_67 (fun H locs hP _ hS => ?_)
              obtain ⟨v_26, ev_26⟩ : ∃ z, z = mU v_21 59 (upd (v_21 59) (12 * ix_3 + ix_7) (vp_nar .boolean p2)) := ⟨_, rfl⟩
              have hP : va_P (dC, dI) vwCl (mW cI cZ cS cC cJ a v_26) H := by rw [ev_26]; exact mW_put hP (by omega) (by rw [hm_25, nI_clamp (by omega)]; rfl)
              have hB := hB.put59 ev_26 (by have e45 : v_21 45 = v_1 45 := (by rw [ev_21, mU_ne _ _ (by first | decide | omega)]); have e59 : v_21 59 = v_1 59 := (by rw [ev_21, mU_ne _ _ (by first | decide | omega)]); refine rN.add hB.nd (by rw [e45]; exact hlt_3) (by rw [e45]; exact hlt_7) hB.sc.2 (fun z => c_20 (by rw [ex_3, ex_7, z])) (fun x y hx hy => by rw [e59]; exact hw_21.2.2.2.1 x y (by rw [← e45]; exact hx) (by rw [← e45]; exact hy)) (by rw [← hw_21.2.1]; exact c_22))
              have hL := hL.put ev_26 (by decide)
              refine lv_iconst (v := 1) hx hb dX6_needs_68 (by decide) ?_
              have e29 : v_1 45 2 = v 45 2 := by rw [ev_1, mU_self]; rfl
              have e99 : v 59 = v_1 59 := Eq.symm (by rw [ev_1, mU_ne _ _ (by first | decide | omega)])
              have ck0 : ck p0 = ix_3 := ck_of ex_3 (by omega)
              have ck1 : ck p1 = ix_7 := ck_of ex_7 (by omega)
              have is0 : isS (v 45 2) p0 := isS_of ex_3 (by omega) (by rw [← e29]; exact hlt_3)
              have is1 : isS (v 45 2) p1 := isS_of ex_7 (by omega) (by rw [← e29]; exact hlt_7)
              exact W.zret (v := 1) (ty := .boolean) hx hb hr rfl (fun t ht hW => ⟨⟨1, v_26, rfl, ⟨hB, hL, ⟨⟨by rw [ev_26, mU_ne _ _ (by decide), ev_21, mU_ne _ _ (by decide), ev_1, mU_self]; rfl, by rw [ev_26, mU_ne _ _ (by decide), ev_21, mU_ne _ _ (by decide), ev_1, mU_self]; rfl, (by rw [ev_26, mU_ne _ _ (by first | decide | omega), ev_21, mU_ne _ _ (by first | decide | omega), ev_1, mU_ne _ _ (by first | decide | omega)])⟩, Or.inr ⟨rfl, ⟨is0, is1, fun z => c_14 (by rw [et_13, ← e99, ← ck0, ← ck1]; exact z), fun _ => ⟨c_20, fun z => absurd (hw_21.2.2.2.2.mpr (by rw [ck0, ck1, e99] at z; exact z)) (by rw [c_22]; decide)⟩⟩, by rw [ev_26, mU_self, show v_21 59 = v 59 from (by rw [ev_21, mU_ne _ _ (by first | decide | omega), ev_1, mU_ne _ _ (by first | decide | omega)]), ck0, ck1]⟩⟩⟩, kt_heap ht hP⟩, hS.F ht⟩) hS.2.2 dX6_needs_69
            · refine lv_iconst (v := 0) hx hb dX6_needs_54 (by decide) ?_
              have e29 : v_1 45 2 = v 45 2 := by rw [ev_1, mU_self]; rfl
              have e99 : v 59 = v_1 59 := Eq.symm (by rw [ev_1, mU_ne _ _ (by first | decide | omega)])
              have ck0 : ck p0 = ix_3 := ck_of ex_3 (by omega)
              have ck1 : ck p1 = ix_7 := ck_of ex_7 (by omega)
              have is0 : isS (v 45 2) p0 := isS_of ex_3 (by omega) (by rw [← e29]; exact hlt_3)
              have is1 : isS (v 45 2) p1 := isS_of ex_7 (by omega) (by rw [← e29]; exact hlt_7)
              exact W.zret (v := 0) (ty := .boolean) hx hb hr rfl (fun t ht hW => ⟨⟨0, v_21, rfl, ⟨hB, hL, ⟨⟨by rw [ev_21, mU_ne _ _ (by decide), ev_1, mU_self]; rfl, by rw [ev_21, mU_ne _ _ (by decide), ev_1, mU_self]; rfl, (by rw [ev_21, mU_ne _ _ (by first | decide | omega), ev_1, mU_ne _ _ (by first | decide | omega)])⟩, Or.inl ⟨rfl, (by rw [ev_21, mU_ne _ _ (by first | decide | omega), ev_1, mU_ne _ _ (by first | decide | omega)]), fun z => (z.2.2.2 c_15).2 (by rw [ck0, ck1, e99]; exact hw_21.2.2.2.2.mp (hw_21.2.2.1.resolve_left c_22))⟩⟩⟩, kt_heap ht hP⟩, hS.F ht⟩) hS.2.2 dX6_needs_55
