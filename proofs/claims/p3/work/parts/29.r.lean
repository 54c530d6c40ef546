set_option maxHeartbeats 4000000 in
set_option maxRecDepth 100000 in
theorem c_X6_start (l : Launch) (dC : Nat → ClassId) (dI : Nat → Nat → Nat) (cI cZ cS cC cJ : ClassId) (a : Nat → Nat) (v : Nat → Nat → Int32) (sz : Nat) (p0 p1 : Int32) (hD : mDD a) (gn : Nat) (hn : gn < 100000) (hB : rB gn v v) (hL : rL v) (i0 : Nat) (hi0 : i0 < 12) (ei0 : p0 = nI i0) (h0 : v 52 i0 = 0) : Met l yX6_start (Cond.code yX6_start cX6_start 3 none :: WW) ({ frames := 3, cells := 0, slots := 0, locals := 90 }) (va_Pc [.ref (a 45), .int p0, .int p1] (fun U => U.heap.size = sz ∧ va_P (dC, dI) vwCl (mW cI cZ cS cC cJ a v) U.heap ∧ va_K (dC, dI) vwCl [(cI, .int), (cZ, .boolean), (cS, .object RX3), (cC, .object RX0), (cJ, .long)] U ∧ mN U)) (va_Qv (fun (u : Nat → Nat → Int32) => (rB (gn + 1) v u) ∧ (rL u)) (fun (u : Nat → Nat → Int32) (t : State) => va_P (dC, dI) vwCl (mW cI cZ cS cC cJ a u) t.heap) (mA a sz)) 0 0 (mA a sz) := by
  refine Met.ofW (cc := cX6_start) (maxL := 3) (ret := none) (by decide) rfl ?_
  intro p e s m args below meth c s₁ B hml hv
  obtain ⟨rfl, hsz, hP, hK, hN⟩ := hv
  have hx := B.exec
  have hb := B.bytes
  have hr := B.returns
  have hts := atoms_spec (ws := Cond.code yX6_start cX6_start 3 none :: WW) B.pre
  have hown : s.vm.findClass RX6 = some m.cls := findClass_of_methodNamed B.named
  have hlocks := B.notSynchronized
  subst hsz
  have hAc : ∀ c, c < 81 → mA a s.heap.size (a c) := fun c h => Or.inl ⟨c, h, rfl⟩
  have hA : ∀ q : Nat, s.heap.size ≤ q → mA a s.heap.size q := fun q h => Or.inr h
  generalize hAe : mA a s.heap.size = A at hAc hA ⊢
  have hS : va_S A s.heap s.heap [] := va_S.rf
  have hl := lv_entry ([.ref (a 45), .int p0, .int p1]) (n := 3) (Nat.le_of_ble_eq_true rfl)
  rw [lg_entry_eq]
  generalize (lg_sl ([.ref (a 45), .int p0, .int p1]) ++ List.replicate (3 - (lg_sl ([.ref (a 45), .int p0, .int p1])).length) Slot.unset).toArray = ls at hl ⊢
  have hl : lv_has ls 3 [(0, .ref (a 45)), (1, .int p0), (2, .int p1)] := hl
  refine lv_aload_n hx hb dX6_start_0 rfl (lv_at hl 0 rfl) ?_
  refine va_get (D := (dC, dI)) (ci := 6) (v := .ref (a 50)) (C := RX6) (T := TX6) (N := 43) hx hb hts (fun w h => List.mem_cons_of_mem _ (inWX6 w h)) hown hK hP 45 at_45 rfl 13 (by decide) (hts _ (List.mem_cons_of_mem _ kw_t3_54)) (fun _ h9 => h9) rfl dX6_start_1 ?_
  refine lv_iload_n hx hb dX6_start_4 rfl (lv_at hl 1 rfl) ?_
  refine lv_dup2_11 hx hb dX6_start_5 rfl rfl ?_
  refine va_iald hx hb hK hP 50 0 at_50 rfl (kt_inN ei0 (by omega) (by decide)) dX6_start_6 ?_
  refine lv_topi (fun t_1 et_1 => ?_)
  rw [ei0, nI_clamp (by omega)] at et_1
  refine lv_iconst (v := 1) hx hb dX6_start_7 (by decide) ?_
  refine lv_iadd hx hb dX6_start_8 ?_
  refine lv_topi (fun t_2 et_2 => ?_)
  refine va_iast hx hb hK hP (mD_of hD hAc) hS 50 0 at_50 rfl (kt_inN ei0 (by omega) (by decide)) dX6_start_9 (fun H locs hP _ hS => ?_)
  obtain ⟨v_3, ev_3⟩ : ∃ z, z = mU v 50 (upd (v 50) i0 t_2) := ⟨_, rfl⟩
  have hP : va_P (dC, dI) vwCl (mW cI cZ cS cC cJ a v_3) H := by rw [ev_3]; exact mW_put hP (by omega) (by rw [ei0, nI_clamp (by omega)]; rfl)
  have hB := hB.put ev_3 (by decide)
  have hL := hL.put ev_3 (by decide)
  refine lv_aload_n hx hb dX6_start_10 rfl (lv_at hl 0 rfl) ?_
  refine va_get (D := (dC, dI)) (ci := 6) (v := .ref (a 51)) (C := RX6) (T := TX6) (N := 43) hx hb hts (fun w h => List.mem_cons_of_mem _ (inWX6 w h)) hown hK hP 45 at_45 rfl 14 (by decide) (hts _ (List.mem_cons_of_mem _ kw_t3_55)) (fun _ h9 => h9) rfl dX6_start_11 ?_
  refine lv_iload_n hx hb dX6_start_14 rfl (lv_at hl 1 rfl) ?_
  refine lv_aload_n hx hb dX6_start_15 rfl (lv_at hl 0 rfl) ?_
  refine va_get (D := (dC, dI)) (ci := 6) (v := .int (v_3 45 1)) (C := RX6) (T := TX6) (N := 43) hx hb hts (fun w h => List.mem_cons_of_mem _ (inWX6 w h)) hown hK hP 45 at_45 rfl 1 (by decide) (hts _ (List.mem_cons_of_mem _ kw_t3_42)) (fun _ h9 => h9) rfl dX6_start_16 ?_
  refine lv_topi (fun t_4 et_4 => ?_)
  refine va_iast hx hb hK hP (mD_of hD hAc) hS 51 0 at_51 rfl (kt_inN ei0 (by omega) (by decide)) dX6_start_19 (fun H locs hP _ hS => ?_)
  obtain ⟨v_5, ev_5⟩ : ∃ z, z = mU v_3 51 (upd (v_3 51) i0 t_4) := ⟨_, rfl⟩
  have hP : va_P (dC, dI) vwCl (mW cI cZ cS cC cJ a v_5) H := by rw [ev_5]; exact mW_put hP (by omega) (by rw [ei0, nI_clamp (by omega)]; rfl)
  have hB := hB.put ev_5 (by decide)
  have hL := hL.put ev_5 (by decide)
  refine lv_aload_n hx hb dX6_start_20 rfl (lv_at hl 0 rfl) ?_
  refine va_get (D := (dC, dI)) (ci := 6) (v := .ref (a 58)) (C := RX6) (T := TX6) (N := 43) hx hb hts (fun w h => List.mem_cons_of_mem _ (inWX6 w h)) hown hK hP 45 at_45 rfl 21 (by decide) (hts _ (List.mem_cons_of_mem _ kw_t3_62)) (fun _ h9 => h9) rfl dX6_start_21 ?_
  refine lv_iload_n hx hb dX6_start_24 rfl (lv_at hl 1 rfl) ?_
  refine lv_iload_n hx hb dX6_start_25 rfl (lv_at hl 2 rfl) ?_
  refine lv_if_eq (tgt := 42) hx hb dX6_start_26 (by decide) (fun c_6 => ?_) (fun c_6 => ?_)
  · refine lv_iconst (v := 0) hx hb dX6_start_42 (by decide) ?_
    refine va_zast hx hb hK hP (mD_of hD hAc) hS 58 1 at_58 rfl (kt_inN ei0 (by omega) (by decide)) dX6_start_43 (fun H locs hP _ hS => ?_)
    obtain ⟨v_7, ev_7⟩ : ∃ z, z = mU v_5 58 (upd (v_5 58) i0 (vp_nar .boolean 0)) := ⟨_, rfl⟩
    have hP : va_P (dC, dI) vwCl (mW cI cZ cS cC cJ a v_7) H := by rw [ev_7]; exact mW_put hP (by omega) (by rw [ei0, nI_clamp (by omega)]; rfl)
    have hB := hB.put ev_7 (by decide)
    have hL := hL.put ev_7 (by decide)
    refine lv_aload_n hx hb dX6_start_44 rfl (lv_at hl 0 rfl) ?_
    refine va_get (D := (dC, dI)) (ci := 6) (v := .ref (a 57)) (C := RX6) (T := TX6) (N := 43) hx hb hts (fun w h => List.mem_cons_of_mem _ (inWX6 w h)) hown hK hP 45 at_45 rfl 20 (by decide) (hts _ (List.mem_cons_of_mem _ kw_t3_61)) (fun _ h9 => h9) rfl dX6_start_45 ?_
    refine lv_iload_n hx hb dX6_start_48 rfl (lv_at hl 1 rfl) ?_
    refine lv_aload_n hx hb dX6_start_49 rfl (lv_at hl 0 rfl) ?_
    refine va_get (D := (dC, dI)) (ci := 6) (v := .int (v_7 45 4)) (C := RX6) (T := TX6) (N := 43) hx hb hts (fun w h => List.mem_cons_of_mem _ (inWX6 w h)) hown hK hP 45 at_45 rfl 4 (by decide) (hts _ (List.mem_cons_of_mem _ kw_t3_45)) (fun _ h9 => h9) rfl dX6_start_50 ?_
    refine lv_topi (fun t_8 et_8 => ?_)
    have hsc_8 : 0 ≤ t_8.toInt ∧ t_8.toInt ≤ gn := by rw [et_8]; exact hB.tn
    refine va_iast hx hb hK hP (mD_of hD hAc) hS 57 0 at_57 rfl (kt_inN ei0 (by omega) (by decide)) dX6_start_53 (fun H locs hP _ hS => ?_)
    obtain ⟨v_9, ev_9⟩ : ∃ z, z = mU v_7 57 (upd (v_7 57) i0 t_8) := ⟨_, rfl⟩
    have hP : va_P (dC, dI) vwCl (mW cI cZ cS cC cJ a v_9) H := by rw [ev_9]; exact mW_put hP (by omega) (by rw [ei0, nI_clamp (by omega)]; rfl)
    have hB := hB.put57 ev_9 (by omega)
    have hL := hL.put ev_9 (by decide)
    refine lv_aload_n hx hb dX6_start_54 rfl (lv_at hl 0 rfl) ?_
    refine va_get (D := (dC, dI)) (ci := 6) (v := .int (v_9 45 4)) (C := RX6) (T := TX6) (N := 43) hx hb hts (fun w h => List.mem_cons_of_mem _ (inWX6 w h)) hown hK hP 45 at_45 rfl 4 (by decide) (hts _ (List.mem_cons_of_mem _ kw_t3_45)) (fun _ h9 => h9) rfl dX6_start_55 ?_
    refine lv_topi (fun t_10 et_10 => ?_)
    obtain rfl : t_8 = t_10 := et_8.trans ((congrFun (show v_9 45 = v_7 45 from (by rw [ev_9, mU_ne _ _ (by first | decide | omega)])) 4).symm.trans et_10.symm)
    refine lv_sipush (v := 500) hx hb dX6_start_58 (by decide) ?_
    refine lv_icmp_ge (tgt := 122) hx hb dX6_start_61 (by decide) (fun c_11 => ?_) (fun c_11 => ?_)
    · refine lv_aload_n hx hb dX6_start_122 rfl (lv_at hl 0 rfl) ?_
      refine lv_dup hx hb dX6_start_123 rfl ?_
      refine va_get (D := (dC, dI)) (ci := 6) (v := .int (v_9 45 4)) (C := RX6) (T := TX6) (N := 43) hx hb hts (fun w h => List.mem_cons_of_mem _ (inWX6 w h)) hown hK hP 45 at_45 rfl 4 (by decide) (hts _ (List.mem_cons_of_mem _ kw_t3_45)) (fun _ h9 => h9) rfl dX6_start_124 ?_
      refine lv_topi (fun t_12 et_12 => ?_)
      obtain rfl : t_8 = t_12 := et_8.trans ((congrFun (show v_9 45 = v_7 45 from (by rw [ev_9, mU_ne _ _ (by first | decide | omega)])) 4).symm.trans et_12.symm)
      refine lv_iconst (v := 1) hx hb dX6_start_127 (by decide) ?_
      refine lv_iadd hx hb dX6_start_128 ?_
      refine lv_topi (fun t_13 et_13 => ?_)
      refine va_put (D := (dC, dI)) (ci := 6) (v := .int t_13) (ty := .int) (C := RX6) (T := TX6) (N := 43) hx hb hts (fun w h => List.mem_cons_of_mem _ (inWX6 w h)) tyX6 tyX6_ok nmX6 hown hK hP (mD_of hD hAc) hS 45 at_45 rfl 4 (by decide) (hts _ (List.mem_cons_of_mem _ kw_t3_45)) (fun _ h9 => h9) rfl (by decide +kernel) rfl rfl (Nat.le_of_ble_eq_true rfl) dX6_start_129 (fun H locs hP _ hS => ?_)
      obtain ⟨v_14, ev_14⟩ : ∃ z, z = mU v_9 45 (upd (v_9 45) 4 t_13) := ⟨_, rfl⟩
      have hP : va_P (dC, dI) vwCl (mW cI cZ cS cC cJ a v_14) H := by rw [ev_14]; exact mW_put hP (by omega) rfl
      have hy9 := kt_addI (x := t_8) (by omega) (by omega) et_13
      have hB := hB.putM (m := gn + 1) ev_14 (by decide) (by rw [if_pos rfl]; exact ⟨by omega, by omega⟩)
      have hL := hL.putM ev_14 (by decide)
      refine lv_aload_n hx hb dX6_start_132 rfl (lv_at hl 0 rfl) ?_
      refine lv_iload_n hx hb dX6_start_133 rfl (lv_at hl 1 rfl) ?_
      refine lv_aload_n hx hb dX6_start_134 rfl (lv_at hl 0 rfl) ?_
      refine va_get (D := (dC, dI)) (ci := 6) (v := .ref (a 46)) (C := RX6) (T := TX6) (N := 43) hx hb hts (fun w h => List.mem_cons_of_mem _ (inWX6 w h)) hown hK hP 45 at_45 rfl 9 (by decide) (hts _ (List.mem_cons_of_mem _ kw_t3_50)) (fun _ h9 => h9) rfl dX6_start_135 ?_
      refine lv_iload_n hx hb dX6_start_138 rfl (lv_at hl 1 rfl) ?_
      refine va_iald hx hb hK hP 46 0 at_46 rfl (kt_inN ei0 (by omega) (by decide)) dX6_start_139 ?_
      refine lv_topi (fun t_15 et_15 => ?_)
      rw [ei0, nI_clamp (by omega)] at et_15
      refine lv_if_ne (tgt := 147) hx hb dX6_start_140 (by decide) (fun c_16 => ?_) (fun c_16 => ?_)
      · refine lv_iconst (v := 5) hx hb dX6_start_147 (by decide) ?_
        have hFc := mA_free (a := a) hS hA hAc
        refine va_callv (va_runV (As := [.int p0, .int 5]) (rest := []) ⟨hx, hb, hml, hown, hts⟩ (c_X6_begins l dC dI cI cZ cS cC cJ a v_14 H.size p0 5 hD (gn + 1) (by omega) hB.self i0 (by omega) ei0 0 (rL.zero hL (rL.at0 hL hi0 (by rw [show v_14 52 = v 52 from (by rw [ev_14, mU_ne _ _ (by first | decide | omega), ev_9, mU_ne _ _ (by first | decide | omega), ev_7, mU_ne _ _ (by first | decide | omega), ev_5, mU_ne _ _ (by first | decide | omega), ev_3, mU_ne _ _ (by first | decide | omega)])]; exact h0))) (Or.inl ⟨rfl, by decide⟩)) (cwV 2 hts (gV (fun w h => List.mem_cons_of_mem _ h) kw_t3_236 kw_t3_238 kw_s0_19 kw_t1_7 kw_t3_239) rfl rfl rfl (by decide +kernel) ⟨Nat.le_of_ble_eq_true rfl, Nat.le_of_ble_eq_true rfl⟩) ⟨fun av U g mk q => by obtain ⟨q0, q1, qP, qK, qN⟩ := q; exact ⟨q0, q1, qP, va_K.moved (u := U) (U := U.calling g mk av) (Vm.Alike.refl U.vm) qK, mN_same qN⟩, va_recv hK hP (ci := 6) (q0 := 45) rfl at_45, fun U hU hW => ⟨rfl, by rw [hU], by rw [hU]; exact hP, va_K.moved hW.alike hK, mN_warm hW hN⟩⟩ rfl rfl hl.1 rfl (lv_room (Nat.le_of_ble_eq_true rfl)) dX6_start_148 ⟨Nat.le_of_ble_eq_true rfl, Nat.le_of_ble_eq_true rfl⟩) hS (fun q _ h => hFc q h) hFc (fun v_17 t H locs ht hvm hw_17 hP _ _ hS => ?_)
        have hP := kt_heap2 ht hP
        clear ht hFc
        have hP : va_P (dC, dI) vwCl (mW cI cZ cS cC cJ a v_17) H := hP
        have hB := hB.trans hw_17.1
        have hL := hw_17.2.1
        exact W.vret hx hb hr (fun t ht hW => ⟨⟨v_17, rfl, ⟨hB, hL⟩, kt_heap ht hP⟩, hS.F ht⟩) hS.2.2 dX6_start_151
      · refine lv_iconst (v := 1) hx hb dX6_start_143 (by decide) ?_
        refine lv_goto (tgt := 148) hx hb dX6_start_144 (by decide) ?_
        have hFc := mA_free (a := a) hS hA hAc
        refine va_callv (va_runV (As := [.int p0, .int 1]) (rest := []) ⟨hx, hb, hml, hown, hts⟩ (c_X6_begins l dC dI cI cZ cS cC cJ a v_14 H.size p0 1 hD (gn + 1) (by omega) hB.self i0 (by omega) ei0 0 (rL.zero hL (rL.at0 hL hi0 (by rw [show v_14 52 = v 52 from (by rw [ev_14, mU_ne _ _ (by first | decide | omega), ev_9, mU_ne _ _ (by first | decide | omega), ev_7, mU_ne _ _ (by first | decide | omega), ev_5, mU_ne _ _ (by first | decide | omega), ev_3, mU_ne _ _ (by first | decide | omega)])]; exact h0))) (Or.inl ⟨rfl, by decide⟩)) (cwV 2 hts (gV (fun w h => List.mem_cons_of_mem _ h) kw_t3_236 kw_t3_238 kw_s0_19 kw_t1_7 kw_t3_239) rfl rfl rfl (by decide +kernel) ⟨Nat.le_of_ble_eq_true rfl, Nat.le_of_ble_eq_true rfl⟩) ⟨fun av U g mk q => by obtain ⟨q0, q1, qP, qK, qN⟩ := q; exact ⟨q0, q1, qP, va_K.moved (u := U) (U := U.calling g mk av) (Vm.Alike.refl U.vm) qK, mN_same qN⟩, va_recv hK hP (ci := 6) (q0 := 45) rfl at_45, fun U hU hW => ⟨rfl, by rw [hU], by rw [hU]; exact hP, va_K.moved hW.alike hK, mN_warm hW hN⟩⟩ rfl rfl hl.1 rfl (lv_room (Nat.le_of_ble_eq_true rfl)) dX6_start_148 ⟨Nat.le_of_ble_eq_true rfl, Nat.le_of_ble_eq_true rfl⟩) hS (fun q _ h => hFc q h) hFc (fun v_18 t H locs ht hvm hw_18 hP _ _ hS => ?_)
        have hP := kt_heap2 ht hP
        clear ht hFc
        have hP : va_P (dC, dI) vwCl (mW cI cZ cS cC cJ a v_18) H := hP
        have hB := hB.trans hw_18.1
        have hL := hw_18.2.1
        exact W.vret hx hb hr (fun t ht hW => ⟨⟨v_18, rfl, ⟨hB, hL⟩, kt_heap ht hP⟩, hS.F ht⟩) hS.2.2 dX6_start_151
    · refine lv_aload_n hx hb dX6_start_64 rfl (lv_at hl 0 rfl) ?_
      refine va_get (D := (dC, dI)) (ci := 6) (v := .ref (a 73)) (C := RX6) (T := TX6) (N := 43) hx hb hts (fun w h => List.mem_cons_of_mem _ (inWX6 w h)) hown hK hP 45 at_45 rfl 36 (by decide) (hts _ (List.mem_cons_of_mem _ kw_t3_77)) (fun _ h9 => h9) rfl dX6_start_65 ?_
      refine lv_aload_n hx hb dX6_start_68 rfl (lv_at hl 0 rfl) ?_
      refine va_get (D := (dC, dI)) (ci := 6) (v := .int (v_9 45 4)) (C := RX6) (T := TX6) (N := 43) hx hb hts (fun w h => List.mem_cons_of_mem _ (inWX6 w h)) hown hK hP 45 at_45 rfl 4 (by decide) (hts _ (List.mem_cons_of_mem _ kw_t3_45)) (fun _ h9 => h9) rfl dX6_start_69 ?_
      refine lv_topi (fun t_19 et_19 => ?_)
      obtain rfl : t_8 = t_19 := et_8.trans ((congrFun (show v_9 45 = v_7 45 from (by rw [ev_9, mU_ne _ _ (by first | decide | omega)])) 4).symm.trans et_19.symm)
      refine lv_iload_n hx hb dX6_start_72 rfl (lv_at hl 1 rfl) ?_
      obtain ⟨ix_21, hx_21, ex_21⟩ := kt_idx (x := t_8) (n := 500) (by have z0 := c_6; have z1 := hsc_8; have z2 := c_11; (try simp only [Int32.lt_iff_toInt_lt, Int32.le_iff_toInt_le, ← Int32.toInt_inj, L0, L1, L2, L3, L4, L6, L9, L500, L5, L7, L10, L12, L15, L16, L20, L63, L1000, L1023, L2000, L10000, L100000, Lm1] at z0 z1 z2); omega) (by have z0 := c_6; have z1 := hsc_8; have z2 := c_11; (try simp only [Int32.lt_iff_toInt_lt, Int32.le_iff_toInt_le, ← Int32.toInt_inj, L0, L1, L2, L3, L4, L6, L9, L500, L5, L7, L10, L12, L15, L16, L20, L63, L1000, L1023, L2000, L10000, L100000, Lm1] at z0 z1 z2); omega)
      refine va_iast hx hb hK hP (mD_of hD hAc) hS 73 0 at_73 rfl (kt_inN ex_21 (by omega) (by decide)) dX6_start_73 (fun H locs hP _ hS => ?_)
      obtain ⟨v_22, ev_22⟩ : ∃ z, z = mU v_9 73 (upd (v_9 73) ix_21 p0) := ⟨_, rfl⟩
      have hP : va_P (dC, dI) vwCl (mW cI cZ cS cC cJ a v_22) H := by rw [ev_22]; exact mW_put hP (by omega) (by rw [ex_21, nI_clamp (by omega)]; rfl)
      have hB := hB.put ev_22 (by decide)
      have hL := hL.put ev_22 (by decide)
      refine lv_aload_n hx hb dX6_start_74 rfl (lv_at hl 0 rfl) ?_
      refine va_get (D := (dC, dI)) (ci := 6) (v := .ref (a 74)) (C := RX6) (T := TX6) (N := 43) hx hb hts (fun w h => List.mem_cons_of_mem _ (inWX6 w h)) hown hK hP 45 at_45 rfl 37 (by decide) (hts _ (List.mem_cons_of_mem _ kw_t3_78)) (fun _ h9 => h9) rfl dX6_start_75 ?_
      refine lv_aload_n hx hb dX6_start_78 rfl (lv_at hl 0 rfl) ?_
      refine va_get (D := (dC, dI)) (ci := 6) (v := .int (v_22 45 4)) (C := RX6) (T := TX6) (N := 43) hx hb hts (fun w h => List.mem_cons_of_mem _ (inWX6 w h)) hown hK hP 45 at_45 rfl 4 (by decide) (hts _ (List.mem_cons_of_mem _ kw_t3_45)) (fun _ h9 => h9) rfl dX6_start_79 ?_
      refine lv_topi (fun t_23 et_23 => ?_)
      obtain rfl : t_8 = t_23 := et_8.trans ((congrFun (show v_22 45 = v_7 45 from (by rw [ev_22, mU_ne _ _ (by first | decide | omega), ev_9, mU_ne _ _ (by first | decide | omega)])) 4).symm.trans et_23.symm)
      refine lv_aload_n hx hb dX6_start_82 rfl (lv_at hl 0 rfl) ?_
      refine va_get (D := (dC, dI)) (ci := 6) (v := .ref (a 50)) (C := RX6) (T := TX6) (N := 43) hx hb hts (fun w h => List.mem_cons_of_mem _ (inWX6 w h)) hown hK hP 45 at_45 rfl 13 (by decide) (hts _ (List.mem_cons_of_mem _ kw_t3_54)) (fun _ h9 => h9) rfl dX6_start_83 ?_
      refine lv_iload_n hx hb dX6_start_86 rfl (lv_at hl 1 rfl) ?_
      refine va_iald hx hb hK hP 50 0 at_50 rfl (kt_inN ei0 (by omega) (by decide)) dX6_start_87 ?_
      refine lv_topi (fun t_24 et_24 => ?_)
      rw [ei0, nI_clamp (by omega)] at et_24
      refine va_iast hx hb hK hP (mD_of hD hAc) hS 74 0 at_74 rfl (kt_inN ex_21 (by omega) (by decide)) dX6_start_88 (fun H locs hP _ hS => ?_)
      obtain ⟨v_25, ev_25⟩ : ∃ z, z = mU v_22 74 (upd (v_22 74) ix_21 t_24) := ⟨_, rfl⟩
      have hP : va_P (dC, dI) vwCl (mW cI cZ cS cC cJ a v_25) H := by rw [ev_25]; exact mW_put hP (by omega) (by rw [ex_21, nI_clamp (by omega)]; rfl)
      have hB := hB.put ev_25 (by decide)
      have hL := hL.put ev_25 (by decide)
      refine lv_aload_n hx hb dX6_start_89 rfl (lv_at hl 0 rfl) ?_
      refine va_get (D := (dC, dI)) (ci := 6) (v := .ref (a 75)) (C := RX6) (T := TX6) (N := 43) hx hb hts (fun w h => List.mem_cons_of_mem _ (inWX6 w h)) hown hK hP 45 at_45 rfl 38 (by decide) (hts _ (List.mem_cons_of_mem _ kw_t3_79)) (fun _ h9 => h9) rfl dX6_start_90 ?_
      refine lv_aload_n hx hb dX6_start_93 rfl (lv_at hl 0 rfl) ?_
      refine va_get (D := (dC, dI)) (ci := 6) (v := .int (v_25 45 4)) (C := RX6) (T := TX6) (N := 43) hx hb hts (fun w h => List.mem_cons_of_mem _ (inWX6 w h)) hown hK hP 45 at_45 rfl 4 (by decide) (hts _ (List.mem_cons_of_mem _ kw_t3_45)) (fun _ h9 => h9) rfl dX6_start_94 ?_
      refine lv_topi (fun t_26 et_26 => ?_)
      obtain rfl : t_8 = t_26 := et_8.trans ((congrFun (show v_25 45 = v_7 45 from (by rw [ev_25, mU_ne _ _ (by first | decide | omega), ev_22, mU_ne _ _ (by first | decide | omega), ev_9, mU_ne _ _ (by first | decide | omega)])) 4).symm.trans et_26.symm)
      refine lv_aload_n hx hb dX6_start_97 rfl (lv_at hl 0 rfl) ?_
      refine va_get (D := (dC, dI)) (ci := 6) (v := .int (v_25 45 1)) (C := RX6) (T := TX6) (N := 43) hx hb hts (fun w h => List.mem_cons_of_mem _ (inWX6 w h)) hown hK hP 45 at_45 rfl 1 (by decide) (hts _ (List.mem_cons_of_mem _ kw_t3_42)) (fun _ h9 => h9) rfl dX6_start_98 ?_
      refine lv_topi (fun t_27 et_27 => ?_)
      obtain rfl : t_4 = t_27 := et_4.trans ((congrFun (show v_25 45 = v_3 45 from (by rw [ev_25, mU_ne _ _ (by first | decide | omega), ev_22, mU_ne _ _ (by first | decide | omega), ev_9, mU_ne _ _ (by first | decide | omega), ev_7, mU_ne _ _ (by first | decide | omega), ev_5, mU_ne _ _ (by first | decide | omega)])) 1).symm.trans et_27.symm)
      refine va_iast hx hb hK hP (mD_of hD hAc) hS 75 0 at_75 rfl (kt_inN ex_21 (by omega) (by decide)) dX6_start_101 (fun H locs hP _ hS => ?_)
      obtain ⟨v_28, ev_28⟩ : ∃ z, z = mU v_25 75 (upd (v_25 75) ix_21 t_4) := ⟨_, rfl⟩
      have hP : va_P (dC, dI) vwCl (mW cI cZ cS cC cJ a v_28) H := by rw [ev_28]; exact mW_put hP (by omega) (by rw [ex_21, nI_clamp (by omega)]; rfl)
      have hB := hB.put ev_28 (by decide)
      have hL := hL.put ev_28 (by decide)
      refine lv_aload_n hx hb dX6_start_102 rfl (lv_at hl 0 rfl) ?_
      refine va_get (D := (dC, dI)) (ci := 6) (v := .ref (a 76)) (C := RX6) (T := TX6) (N := 43) hx hb hts (fun w h => List.mem_cons_of_mem _ (inWX6 w h)) hown hK hP 45 at_45 rfl 39 (by decide) (hts _ (List.mem_cons_of_mem _ kw_t3_80)) (fun _ h9 => h9) rfl dX6_start_103 ?_
      refine lv_aload_n hx hb dX6_start_106 rfl (lv_at hl 0 rfl) ?_
      refine va_get (D := (dC, dI)) (ci := 6) (v := .int (v_28 45 4)) (C := RX6) (T := TX6) (N := 43) hx hb hts (fun w h => List.mem_cons_of_mem _ (inWX6 w h)) hown hK hP 45 at_45 rfl 4 (by decide) (hts _ (List.mem_cons_of_mem _ kw_t3_45)) (fun _ h9 => h9) rfl dX6_start_107 ?_
      refine lv_topi (fun t_29 et_29 => ?_)
      obtain rfl : t_8 = t_29 := et_8.trans ((congrFun (show v_28 45 = v_7 45 from (by rw [ev_28, mU_ne _ _ (by first | decide | omega), ev_25, mU_ne _ _ (by first | decide | omega), ev_22, mU_ne _ _ (by first | decide | omega), ev_9, mU_ne _ _ (by first | decide | omega)])) 4).symm.trans et_29.symm)
      refine lv_iconst (v := (-1)) hx hb dX6_start_110 (by decide) ?_
      refine va_iast hx hb hK hP (mD_of hD hAc) hS 76 0 at_76 rfl (kt_inN ex_21 (by omega) (by decide)) dX6_start_111 (fun H locs hP _ hS => ?_)
      obtain ⟨v_30, ev_30⟩ : ∃ z, z = mU v_28 76 (upd (v_28 76) ix_21 (-1)) := ⟨_, rfl⟩
      have hP : va_P (dC, dI) vwCl (mW cI cZ cS cC cJ a v_30) H := by rw [ev_30]; exact mW_put hP (by omega) (by rw [ex_21, nI_clamp (by omega)]; rfl)
      have hB := hB.put ev_30 (by decide)
      have hL := hL.put ev_30 (by decide)
      refine lv_aload_n hx hb dX6_start_112 rfl (lv_at hl 0 rfl) ?_
      refine va_get (D := (dC, dI)) (ci := 6) (v := .ref (a 77)) (C := RX6) (T := TX6) (N := 43) hx hb hts (fun w h => List.mem_cons_of_mem _ (inWX6 w h)) hown hK hP 45 at_45 rfl 40 (by decide) (hts _ (List.mem_cons_of_mem _ kw_t3_81)) (fun _ h9 => h9) rfl dX6_start_113 ?_
      refine lv_aload_n hx hb dX6_start_116 rfl (lv_at hl 0 rfl) ?_
      refine va_get (D := (dC, dI)) (ci := 6) (v := .int (v_30 45 4)) (C := RX6) (T := TX6) (N := 43) hx hb hts (fun w h => List.mem_cons_of_mem _ (inWX6 w h)) hown hK hP 45 at_45 rfl 4 (by decide) (hts _ (List.mem_cons_of_mem _ kw_t3_45)) (fun _ h9 => h9) rfl dX6_start_117 ?_
      refine lv_topi (fun t_31 et_31 => ?_)
      obtain rfl : t_8 = t_31 := et_8.trans ((congrFun (show v_30 45 = v_7 45 from (by rw [ev_30, mU_ne _ _ (by first | decide | omega), ev_28, mU_ne _ _ (by first | decide | omega), ev_25, mU_ne _ _ (by first | decide | omega), ev_22, mU_ne _ _ (by first | decide | omega), ev_9, mU_ne _ _ (by first | decide | omega)])) 4).symm.trans et_31.symm)
      refine lv_iload_n hx hb dX6_start_120 rfl (lv_at hl 2 rfl) ?_
      refine va_zast hx hb hK hP (mD_of hD hAc) hS 77 1 at_77 rfl (kt_inN ex_21 (by omega) (by decide)) dX6_start_121 (fun H locs hP _ hS => ?_)
      obtain ⟨v_32, ev_32⟩ : ∃ z, z = mU v_30 77 (upd (v_30 77) ix_21 (vp_nar .boolean p1)) := ⟨_, rfl⟩
      have hP : va_P (dC, dI) vwCl (mW cI cZ cS cC cJ a v_32) H := by rw [ev_32]; exact mW_put hP (by omega) (by rw [ex_21, nI_clamp (by omega)]; rfl)
      have hB := hB.put ev_32 (by decide)
      have hL := hL.put ev_32 (by decide)
      refine lv_aload_n hx hb dX6_start_122 rfl (lv_at hl 0 rfl) ?_
      refine lv_dup hx hb dX6_start_123 rfl ?_
      refine va_get (D := (dC, dI)) (ci := 6) (v := .int (v_32 45 4)) (C := RX6) (T := TX6) (N := 43) hx hb hts (fun w h => List.mem_cons_of_mem _ (inWX6 w h)) hown hK hP 45 at_45 rfl 4 (by decide) (hts _ (List.mem_cons_of_mem _ kw_t3_45)) (fun _ h9 => h9) rfl dX6_start_124 ?_
      refine lv_topi (fun t_33 et_33 => ?_)
      obtain rfl : t_8 = t_33 := et_8.trans ((congrFun (show v_32 45 = v_7 45 from (by rw [ev_32, mU_ne _ _ (by first | decide | omega), ev_30, mU_ne _ _ (by first | decide | omega), ev_28, mU_ne _ _ (by first | decide | omega), ev_25, mU_ne _ _ (by first | decide | omega), ev_22, mU_ne _ _ (by first | decide | omega), ev_9, mU_ne _ _ (by first | decide | omega)])) 4).symm.trans et_33.symm)
      refine lv_iconst (v := 1) hx hb dX6_start_127 (by decide) ?_
      refine lv_iadd hx hb dX6_start_128 ?_
      refine lv_topi (fun t_34 et_34 => ?_)
      refine va_put (D := (dC, dI)) (ci := 6) (v := .int t_34) (ty := .int) (C := RX6) (T := TX6) (N := 43) hx hb hts (fun w h => List.mem_cons_of_mem _ (inWX6 w h)) tyX6 tyX6_ok nmX6 hown hK hP (mD_of hD hAc) hS 45 at_45 rfl 4 (by decide) (hts _ (List.mem_cons_of_mem _ kw_t3_45)) (fun _ h9 => h9) rfl (by decide +kernel) rfl rfl (Nat.le_of_ble_eq_true rfl) dX6_start_129 (fun H locs hP _ hS => ?_)
      obtain ⟨v_35, ev_35⟩ : ∃ z, z = mU v_32 45 (upd (v_32 45) 4 t_34) := ⟨_, rfl⟩
      have hP : va_P (dC, dI) vwCl (mW cI cZ cS cC cJ a v_35) H := by rw [ev_35]; exact mW_put hP (by omega) rfl
      have hy9 := kt_addI (x := t_8) (by omega) (by omega) et_34
      have hB := hB.putM (m := gn + 1) ev_35 (by decide) (by rw [if_pos rfl]; exact ⟨by omega, by omega⟩)
      have hL := hL.putM ev_35 (by decide)
      refine lv_aload_n hx hb dX6_start_132 rfl (lv_at hl 0 rfl) ?_
      refine lv_iload_n hx hb dX6_start_133 rfl (lv_at hl 1 rfl) ?_
      refine lv_aload_n hx hb dX6_start_134 rfl (lv_at hl 0 rfl) ?_
      refine va_get (D := (dC, dI)) (ci := 6) (v := .ref (a 46)) (C := RX6) (T := TX6) (N := 43) hx hb hts (fun w h => List.mem_cons_of_mem _ (inWX6 w h)) hown hK hP 45 at_45 rfl 9 (by decide) (hts _ (List.mem_cons_of_mem _ kw_t3_50)) (fun _ h9 => h9) rfl dX6_start_135 ?_
      refine lv_iload_n hx hb dX6_start_138 rfl (lv_at hl 1 rfl) ?_
      refine va_iald hx hb hK hP 46 0 at_46 rfl (kt_inN ei0 (by omega) (by decide)) dX6_start_139 ?_
      refine lv_topi (fun t_36 et_36 => ?_)
      rw [ei0, nI_clamp (by omega)] at et_36
      refine lv_if_ne (tgt := 147) hx hb dX6_start_140 (by decide) (fun c_37 => ?_) (fun c_37 => ?_)
      · refine lv_iconst (v := 5) hx hb dX6_start_147 (by decide) ?_
        have hFc := mA_free (a := a) hS hA hAc
        refine va_callv (va_runV (As := [.int p0, .int 5]) (rest := []) ⟨hx, hb, hml, hown, hts⟩ (c_X6_begins l dC dI cI cZ cS cC cJ a v_35 H.size p0 5 hD (gn + 1) (by omega) hB.self i0 (by omega) ei0 0 (rL.zero hL (rL.at0 hL hi0 (by rw [show v_35 52 = v 52 from (by rw [ev_35, mU_ne _ _ (by first | decide | omega), ev_32, mU_ne _ _ (by first | decide | omega), ev_30, mU_ne _ _ (by first | decide | omega), ev_28, mU_ne _ _ (by first | decide | omega), ev_25, mU_ne _ _ (by first | decide | omega), ev_22, mU_ne _ _ (by first | decide | omega), ev_9, mU_ne _ _ (by first | decide | omega), ev_7, mU_ne _ _ (by first | decide | omega), ev_5, mU_ne _ _ (by first | decide | omega), ev_3, mU_ne _ _ (by first | decide | omega)])]; exact h0))) (Or.inl ⟨rfl, by decide⟩)) (cwV 2 hts (gV (fun w h => List.mem_cons_of_mem _ h) kw_t3_236 kw_t3_238 kw_s0_19 kw_t1_7 kw_t3_239) rfl rfl rfl (by decide +kernel) ⟨Nat.le_of_ble_eq_true rfl, Nat.le_of_ble_eq_true rfl⟩) ⟨fun av U g mk q => by obtain ⟨q0, q1, qP, qK, qN⟩ := q; exact ⟨q0, q1, qP, va_K.moved (u := U) (U := U.calling g mk av) (Vm.Alike.refl U.vm) qK, mN_same qN⟩, va_recv hK hP (ci := 6) (q0 := 45) rfl at_45, fun U hU hW => ⟨rfl, by rw [hU], by rw [hU]; exact hP, va_K.moved hW.alike hK, mN_warm hW hN⟩⟩ rfl rfl hl.1 rfl (lv_room (Nat.le_of_ble_eq_true rfl)) dX6_start_148 ⟨Nat.le_of_ble_eq_true rfl, Nat.le_of_ble_eq_true rfl⟩) hS (fun q _ h => hFc q h) hFc (fun v_38 t H locs ht hvm hw_38 hP _ _ hS => ?_)
        have hP := kt_heap2 ht hP
        clear ht hFc
        have hP : va_P (dC, dI) vwCl (mW cI cZ cS cC cJ a v_38) H := hP
        have hB := hB.trans hw_38.1
        have hL := hw_38.2.1
        exact W.vret hx hb hr (fun t ht hW => ⟨⟨v_38, rfl, ⟨hB, hL⟩, kt_heap ht hP⟩, hS.F ht⟩) hS.2.2 dX6_start_151
      · refine lv_iconst (v := 1) hx hb dX6_start_143 (by decide) ?_
        refine lv_goto (tgt := 148) hx hb dX6_start_144 (by decide) ?_
        have hFc := mA_free (a := a) hS hA hAc
        refine va_callv (va_runV (As := [.int p0, .int 1]) (rest := []) ⟨hx, hb, hml, hown, hts⟩ (c_X6_begins l dC dI cI cZ cS cC cJ a v_35 H.size p0 1 hD (gn + 1) (by omega) hB.self i0 (by omega) ei0 0 (rL.zero hL (rL.at0 hL hi0 (by rw [show v_35 52 = v 52 from (by rw [ev_35, mU_ne _ _ (by first | decide | omega), ev_32, mU_ne _ _ (by first | decide | omega), ev_30, mU_ne _ _ (by first | decide | omega), ev_28, mU_ne _ _ (by first | decide | omega), ev_25, mU_ne _ _ (by first | decide | omega), ev_22, mU_ne _ _ (by first | decide | omega), ev_9, mU_ne _ _ (by first | decide | omega), ev_7, mU_ne _ _ (by first | decide | omega), ev_5, mU_ne _ _ (by first | decide | omega), ev_3, mU_ne _ _ (by first | decide | omega)])]; exact h0))) (Or.inl ⟨rfl, by decide⟩)) (cwV 2 hts (gV (fun w h => List.mem_cons_of_mem _ h) kw_t3_236 kw_t3_238 kw_s0_19 kw_t1_7 kw_t3_239) rfl rfl rfl (by decide +kernel) ⟨Nat.le_of_ble_eq_true rfl, Nat.le_of_ble_eq_true rfl⟩) ⟨fun av U g mk q => by obtain ⟨q0, q1, qP, qK, qN⟩ := q; exact ⟨q0, q1, qP, va_K.moved (u := U) (U := U.calling g mk av) (Vm.Alike.refl U.vm) qK, mN_same qN⟩, va_recv hK hP (ci := 6) (q0 := 45) rfl at_45, fun U hU hW => ⟨rfl, by rw [hU], by rw [hU]; exact hP, va_K.moved hW.alike hK, mN_warm hW hN⟩⟩ rfl rfl hl.1 rfl (lv_room (Nat.le_of_ble_eq_true rfl)) dX6_start_148 ⟨Nat.le_of_ble_eq_true rfl, Nat.le_of_ble_eq_true rfl⟩) hS (fun q _ h => hFc q h) hFc (fun v_39 t H locs ht hvm hw_39 hP _ _ hS => ?_)
        have hP := kt_heap2 ht hP
        clear ht hFc
        have hP : va_P (dC, dI) vwCl (mW cI cZ cS cC cJ a v_39) H := hP
        have hB := hB.trans hw_39.1
        have hL := hw_39.2.1
        exact W.vret hx hb hr (fun t ht hW => ⟨⟨v_39, rfl, ⟨hB, hL⟩, kt_heap ht hP⟩, hS.F ht⟩) hS.2.2 dX6_start_151
  · refine lv_aload_n hx hb dX6_start_29 rfl (lv_at hl 0 rfl) ?_
    refine va_get (D := (dC, dI)) (ci := 6) (v := .ref (a 46)) (C := RX6) (T := TX6) (N := 43) hx hb hts (fun w h => List.mem_cons_of_mem _ (inWX6 w h)) hown hK hP 45 at_45 rfl 9 (by decide) (hts _ (List.mem_cons_of_mem _ kw_t3_50)) (fun _ h9 => h9) rfl dX6_start_30 ?_
    refine lv_iload_n hx hb dX6_start_33 rfl (lv_at hl 1 rfl) ?_
    refine va_iald hx hb hK hP 46 0 at_46 rfl (kt_inN ei0 (by omega) (by decide)) dX6_start_34 ?_
    refine lv_topi (fun t_40 et_40 => ?_)
    rw [ei0, nI_clamp (by omega)] at et_40
    refine lv_if_ne (tgt := 42) hx hb dX6_start_35 (by decide) (fun c_41 => ?_) (fun c_41 => ?_)
    · refine lv_iconst (v := 0) hx hb dX6_start_42 (by decide) ?_
      refine va_zast hx hb hK hP (mD_of hD hAc) hS 58 1 at_58 rfl (kt_inN ei0 (by omega) (by decide)) dX6_start_43 (fun H locs hP _ hS => ?_)
      obtain ⟨v_42, ev_42⟩ : ∃ z, z = mU v_5 58 (upd (v_5 58) i0 (vp_nar .boolean 0)) := ⟨_, rfl⟩
      have hP : va_P (dC, dI) vwCl (mW cI cZ cS cC cJ a v_42) H := by rw [ev_42]; exact mW_put hP (by omega) (by rw [ei0, nI_clamp (by omega)]; rfl)
      have hB := hB.put ev_42 (by decide)
      have hL := hL.put ev_42 (by decide)
      refine lv_aload_n hx hb dX6_start_44 rfl (lv_at hl 0 rfl) ?_
      refine va_get (D := (dC, dI)) (ci := 6) (v := .ref (a 57)) (C := RX6) (T := TX6) (N := 43) hx hb hts (fun w h => List.mem_cons_of_mem _ (inWX6 w h)) hown hK hP 45 at_45 rfl 20 (by decide) (hts _ (List.mem_cons_of_mem _ kw_t3_61)) (fun _ h9 => h9) rfl dX6_start_45 ?_
      refine lv_iload_n hx hb dX6_start_48 rfl (lv_at hl 1 rfl) ?_
      refine lv_aload_n hx hb dX6_start_49 rfl (lv_at hl 0 rfl) ?_
      refine va_get (D := (dC, dI)) (ci := 6) (v := .int (v_42 45 4)) (C := RX6) (T := TX6) (N := 43) hx hb hts (fun w h => List.mem_cons_of_mem _ (inWX6 w h)) hown hK hP 45 at_45 rfl 4 (by decide) (hts _ (List.mem_cons_of_mem _ kw_t3_45)) (fun _ h9 => h9) rfl dX6_start_50 ?_
      refine lv_topi (fun t_43 et_43 => ?_)
      have hsc_43 : 0 ≤ t_43.toInt ∧ t_43.toInt ≤ gn := by rw [et_43]; exact hB.tn
      refine va_iast hx hb hK hP (mD_of hD hAc) hS 57 0 at_57 rfl (kt_inN ei0 (by omega) (by decide)) dX6_start_53 (fun H locs hP _ hS => ?_)
      obtain ⟨v_44, ev_44⟩ : ∃ z, z = mU v_42 57 (upd (v_42 57) i0 t_43) := ⟨_, rfl⟩
      have hP : va_P (dC, dI) vwCl (mW cI cZ cS cC cJ a v_44) H := by rw [ev_44]; exact mW_put hP (by omega) (by rw [ei0, nI_clamp (by omega)]; rfl)
      have hB := hB.put57 ev_44 (by omega)
      have hL := hL.put ev_44 (by decide)
      refine lv_aload_n hx hb dX6_start_54 rfl (lv_at hl 0 rfl) ?_
      refine va_get (D := (dC, dI)) (ci := 6) (v := .int (v_44 45 4)) (C := RX6) (T := TX6) (N := 43) hx hb hts (fun w h => List.mem_cons_of_mem _ (inWX6 w h)) hown hK hP 45 at_45 rfl 4 (by decide) (hts _ (List.mem_cons_of_mem _ kw_t3_45)) (fun _ h9 => h9) rfl dX6_start_55 ?_
      refine lv_topi (fun t_45 et_45 => ?_)
      obtain rfl : t_43 = t_45 := et_43.trans ((congrFun (show v_44 45 = v_42 45 from (by rw [ev_44, mU_ne _ _ (by first | decide | omega)])) 4).symm.trans et_45.symm)
      refine lv_sipush (v := 500) hx hb dX6_start_58 (by decide) ?_
      refine lv_icmp_ge (tgt := 122) hx hb dX6_start_61 (by decide) (fun c_46 => ?_) (fun c_46 => ?_)
      · refine lv_aload_n hx hb dX6_start_122 rfl (lv_at hl 0 rfl) ?_
        refine lv_dup hx hb dX6_start_123 rfl ?_
        refine va_get (D := (dC, dI)) (ci := 6) (v := .int (v_44 45 4)) (C := RX6) (T := TX6) (N := 43) hx hb hts (fun w h => List.mem_cons_of_mem _ (inWX6 w h)) hown hK hP 45 at_45 rfl 4 (by decide) (hts _ (List.mem_cons_of_mem _ kw_t3_45)) (fun _ h9 => h9) rfl dX6_start_124 ?_
        refine lv_topi (fun t_47 et_47 => ?_)
        obtain rfl : t_43 = t_47 := et_43.trans ((congrFun (show v_44 45 = v_42 45 from (by rw [ev_44, mU_ne _ _ (by first | decide | omega)])) 4).symm.trans et_47.symm)
        refine lv_iconst (v := 1) hx hb dX6_start_127 (by decide) ?_
        refine lv_iadd hx hb dX6_start_128 ?_
        refine lv_topi (fun t_48 et_48 => ?_)
        refine va_put (D := (dC, dI)) (ci := 6) (v := .int t_48) (ty := .int) (C := RX6) (T := TX6) (N := 43) hx hb hts (fun w h => List.mem_cons_of_mem _ (inWX6 w h)) tyX6 tyX6_ok nmX6 hown hK hP (mD_of hD hAc) hS 45 at_45 rfl 4 (by decide) (hts _ (List.mem_cons_of_mem _ kw_t3_45)) (fun _ h9 => h9) rfl (by decide +kernel) rfl rfl (Nat.le_of_ble_eq_true rfl) dX6_start_129 (fun H locs hP _ hS => ?_)
        obtain ⟨v_49, ev_49⟩ : ∃ z, z = mU v_44 45 (upd (v_44 45) 4 t_48) := ⟨_, rfl⟩
        have hP : va_P (dC, dI) vwCl (mW cI cZ cS cC cJ a v_49) H := by rw [ev_49]; exact mW_put hP (by omega) rfl
        have hy9 := kt_addI (x := t_43) (by omega) (by omega) et_48
        have hB := hB.putM (m := gn + 1) ev_49 (by decide) (by rw [if_pos rfl]; exact ⟨by omega, by omega⟩)
        have hL := hL.putM ev_49 (by decide)
        refine lv_aload_n hx hb dX6_start_132 rfl (lv_at hl 0 rfl) ?_
        refine lv_iload_n hx hb dX6_start_133 rfl (lv_at hl 1 rfl) ?_
        refine lv_aload_n hx hb dX6_start_134 rfl (lv_at hl 0 rfl) ?_
        refine va_get (D := (dC, dI)) (ci := 6) (v := .ref (a 46)) (C := RX6) (T := TX6) (N := 43) hx hb hts (fun w h => List.mem_cons_of_mem _ (inWX6 w h)) hown hK hP 45 at_45 rfl 9 (by decide) (hts _ (List.mem_cons_of_mem _ kw_t3_50)) (fun _ h9 => h9) rfl dX6_start_135 ?_
        refine lv_iload_n hx hb dX6_start_138 rfl (lv_at hl 1 rfl) ?_
        refine va_iald hx hb hK hP 46 0 at_46 rfl (kt_inN ei0 (by omega) (by decide)) dX6_start_139 ?_
        refine lv_topi (fun t_50 et_50 => ?_)
        rw [ei0, nI_clamp (by omega)] at et_50
        refine lv_if_ne (tgt := 147) hx hb dX6_start_140 (by decide) (fun c_51 => ?_) (fun c_51 => ?_)
        · refine lv_iconst (v := 5) hx hb dX6_start_147 (by decide) ?_
          have hFc := mA_free (a := a) hS hA hAc
          refine va_callv (va_runV (As := [.int p0, .int 5]) (rest := []) ⟨hx, hb, hml, hown, hts⟩ (c_X6_begins l dC dI cI cZ cS cC cJ a v_49 H.size p0 5 hD (gn + 1) (by omega) hB.self i0 (by omega) ei0 0 (rL.zero hL (rL.at0 hL hi0 (by rw [show v_49 52 = v 52 from (by rw [ev_49, mU_ne _ _ (by first | decide | omega), ev_44, mU_ne _ _ (by first | decide | omega), ev_42, mU_ne _ _ (by first | decide | omega), ev_5, mU_ne _ _ (by first | decide | omega), ev_3, mU_ne _ _ (by first | decide | omega)])]; exact h0))) (Or.inl ⟨rfl, by decide⟩)) (cwV 2 hts (gV (fun w h => List.mem_cons_of_mem _ h) kw_t3_236 kw_t3_238 kw_s0_19 kw_t1_7 kw_t3_239) rfl rfl rfl (by decide +kernel) ⟨Nat.le_of_ble_eq_true rfl, Nat.le_of_ble_eq_true rfl⟩) ⟨fun av U g mk q => by obtain ⟨q0, q1, qP, qK, qN⟩ := q; exact ⟨q0, q1, qP, va_K.moved (u := U) (U := U.calling g mk av) (Vm.Alike.refl U.vm) qK, mN_same qN⟩, va_recv hK hP (ci := 6) (q0 := 45) rfl at_45, fun U hU hW => ⟨rfl, by rw [hU], by rw [hU]; exact hP, va_K.moved hW.alike hK, mN_warm hW hN⟩⟩ rfl rfl hl.1 rfl (lv_room (Nat.le_of_ble_eq_true rfl)) dX6_start_148 ⟨Nat.le_of_ble_eq_true rfl, Nat.le_of_ble_eq_true rfl⟩) hS (fun q _ h => hFc q h) hFc (fun v_52 t H locs ht hvm hw_52 hP _ _ hS => ?_)
          have hP := kt_heap2 ht hP
          clear ht hFc
          have hP : va_P (dC, dI) vwCl (mW cI cZ cS cC cJ a v_52) H := hP
          have hB := hB.trans hw_52.1
          have hL := hw_52.2.1
          exact W.vret hx hb hr (fun t ht hW => ⟨⟨v_52, rfl, ⟨hB, hL⟩, kt_heap ht hP⟩, hS.F ht⟩) hS.2.2 dX6_start_151
        · refine lv_iconst (v := 1) hx hb dX6_start_143 (by decide) ?_
          refine lv_goto (tgt := 148) hx hb dX6_start_144 (by decide) ?_
          have hFc := mA_free (a := a) hS hA hAc
          refine va_callv (va_runV (As := [.int p0, .int 1]) (rest := []) ⟨hx, hb, hml, hown, hts⟩ (c_X6_begins l dC dI cI cZ cS cC cJ a v_49 H.size p0 1 hD (gn + 1) (by omega) hB.self i0 (by omega) ei0 0 (rL.zero hL (rL.at0 hL hi0 (by rw [show v_49 52 = v 52 from (by rw [ev_49, mU_ne _ _ (by first | decide | omega), ev_44, mU_ne _ _ (by first | decide | omega), ev_42, mU_ne _ _ (by first | decide | omega), ev_5, mU_ne _ _ (by first | decide | omega), ev_3, mU_ne _ _ (by first | decide | omega)])]; exact h0))) (Or.inl ⟨rfl, by decide⟩)) (cwV 2 hts (gV (fun w h => List.mem_cons_of_mem _ h) kw_t3_236 kw_t3_238 kw_s0_19 kw_t1_7 kw_t3_239) rfl rfl rfl (by decide +kernel) ⟨Nat.le_of_ble_eq_true rfl, Nat.le_of_ble_eq_true rfl⟩) ⟨fun av U g mk q => by obtain ⟨q0, q1, qP, qK, qN⟩ := q; exact ⟨q0, q1, qP, va_K.moved (u := U) (U := U.calling g mk av) (Vm.Alike.refl U.vm) qK, mN_same qN⟩, va_recv hK hP (ci := 6) (q0 := 45) rfl at_45, fun U hU hW => ⟨rfl, by rw [hU], by rw [hU]; exact hP, va_K.moved hW.alike hK, mN_warm hW hN⟩⟩ rfl rfl hl.1 rfl (lv_room (Nat.le_of_ble_eq_true rfl)) dX6_start_148 ⟨Nat.le_of_ble_eq_true rfl, Nat.le_of_ble_eq_true rfl⟩) hS (fun q _ h => hFc q h) hFc (fun v_53 t H locs ht hvm hw_53 hP _ _ hS => ?_)
          have hP := kt_heap2 ht hP
          clear ht hFc
          have hP : va_P (dC, dI) vwCl (mW cI cZ cS cC cJ a v_53) H := hP
          have hB := hB.trans hw_53.1
          have hL := hw_53.2.1
          exact W.vret hx hb hr (fun t ht hW => ⟨⟨v_53, rfl, ⟨hB, hL⟩, kt_heap ht hP⟩, hS.F ht⟩) hS.2.2 dX6_start_151
      · refine lv_aload_n hx hb dX6_start_64 rfl (lv_at hl 0 rfl) ?_
        refine va_get (D := (dC, dI)) (ci := 6) (v := .ref (a 73)) (C := RX6) (T := TX6) (N := 43) hx hb hts (fun w h => List.mem_cons_of_mem _ (inWX6 w h)) hown hK hP 45 at_45 rfl 36 (by decide) (hts _ (List.mem_cons_of_mem _ kw_t3_77)) (fun _ h9 => h9) rfl dX6_start_65 ?_
        refine lv_aload_n hx hb dX6_start_68 rfl (lv_at hl 0 rfl) ?_
        refine va_get (D := (dC, dI)) (ci := 6) (v := .int (v_44 45 4)) (C := RX6) (T := TX6) (N := 43) hx hb hts (fun w h => List.mem_cons_of_mem _ (inWX6 w h)) hown hK hP 45 at_45 rfl 4 (by decide) (hts _ (List.mem_cons_of_mem _ kw_t3_45)) (fun _ h9 => h9) rfl dX6_start_69 ?_
        refine lv_topi (fun t_54 et_54 => ?_)
        obtain rfl : t_43 = t_54 := et_43.trans ((congrFun (show v_44 45 = v_42 45 from (by rw [ev_44, mU_ne _ _ (by first | decide | omega)])) 4).symm.trans et_54.symm)
        refine lv_iload_n hx hb dX6_start_72 rfl (lv_at hl 1 rfl) ?_
        obtain ⟨ix_56, hx_56, ex_56⟩ := kt_idx (x := t_43) (n := 500) (by have z0 := c_6; have z1 := c_41; have z2 := hsc_43; have z3 := c_46; (try simp only [Int32.lt_iff_toInt_lt, Int32.le_iff_toInt_le, ← Int32.toInt_inj, L0, L1, L2, L3, L4, L6, L9, L500, L5, L7, L10, L12, L15, L16, L20, L63, L1000, L1023, L2000, L10000, L100000, Lm1] at z0 z1 z2 z3); omega) (by have z0 := c_6; have z1 := c_41; have z2 := hsc_43; have z3 := c_46; (try simp only [Int32.lt_iff_toInt_lt, Int32.le_iff_toInt_le, ← Int32.toInt_inj, L0, L1, L2, L3, L4, L6, L9, L500, L5, L7, L10, L12, L15, L16, L20, L63, L1000, L1023, L2000, L10000, L100000, Lm1] at z0 z1 z2 z3); omega)
        refine va_iast hx hb hK hP (mD_of hD hAc) hS 73 0 at_73 rfl (kt_inN ex_56 (by omega) (by decide)) dX6_start_73 (fun H locs hP _ hS => ?_)
        obtain ⟨v_57, ev_57⟩ : ∃ z, z = mU v_44 73 (upd (v_44 73) ix_56 p0) := ⟨_, rfl⟩
        have hP : va_P (dC, dI) vwCl (mW cI cZ cS cC cJ a v_57) H := by rw [ev_57]; exact mW_put hP (by omega) (by rw [ex_56, nI_clamp (by omega)]; rfl)
        have hB := hB.put ev_57 (by decide)
        have hL := hL.put ev_57 (by decide)
        refine lv_aload_n hx hb dX6_start_74 rfl (lv_at hl 0 rfl) ?_
        refine va_get (D := (dC, dI)) (ci := 6) (v := .ref (a 74)) (C := RX6) (T := TX6) (N := 43) hx hb hts (fun w h => List.mem_cons_of_mem _ (inWX6 w h)) hown hK hP 45 at_45 rfl 37 (by decide) (hts _ (List.mem_cons_of_mem _ kw_t3_78)) (fun _ h9 => h9) rfl dX6_start_75 ?_
        refine lv_aload_n hx hb dX6_start_78 rfl (lv_at hl 0 rfl) ?_
        refine va_get (D := (dC, dI)) (ci := 6) (v := .int (v_57 45 4)) (C := RX6) (T := TX6) (N := 43) hx hb hts (fun w h => List.mem_cons_of_mem _ (inWX6 w h)) hown hK hP 45 at_45 rfl 4 (by decide) (hts _ (List.mem_cons_of_mem _ kw_t3_45)) (fun _ h9 => h9) rfl dX6_start_79 ?_
        refine lv_topi (fun t_58 et_58 => ?_)
        obtain rfl : t_43 = t_58 := et_43.trans ((congrFun (show v_57 45 = v_42 45 from (by rw [ev_57, mU_ne _ _ (by first | decide | omega), ev_44, mU_ne _ _ (by first | decide | omega)])) 4).symm.trans et_58.symm)
        refine lv_aload_n hx hb dX6_start_82 rfl (lv_at hl 0 rfl) ?_
        refine va_get (D := (dC, dI)) (ci := 6) (v := .ref (a 50)) (C := RX6) (T := TX6) (N := 43) hx hb hts (fun w h => List.mem_cons_of_mem _ (inWX6 w h)) hown hK hP 45 at_45 rfl 13 (by decide) (hts _ (List.mem_cons_of_mem _ kw_t3_54)) (fun _ h9 => h9) rfl dX6_start_83 ?_
        refine lv_iload_n hx hb dX6_start_86 rfl (lv_at hl 1 rfl) ?_
        refine va_iald hx hb hK hP 50 0 at_50 rfl (kt_inN ei0 (by omega) (by decide)) dX6_start_87 ?_
        refine lv_topi (fun t_59 et_59 => ?_)
        rw [ei0, nI_clamp (by omega)] at et_59
        refine va_iast hx hb hK hP (mD_of hD hAc) hS 74 0 at_74 rfl (kt_inN ex_56 (by omega) (by decide)) dX6_start_88 (fun H locs hP _ hS => ?_)
        obtain ⟨v_60, ev_60⟩ : ∃ z, z = mU v_57 74 (upd (v_57 74) ix_56 t_59) := ⟨_, rfl⟩
        have hP : va_P (dC, dI) vwCl (mW cI cZ cS cC cJ a v_60) H := by rw [ev_60]; exact mW_put hP (by omega) (by rw [ex_56, nI_clamp (by omega)]; rfl)
        have hB := hB.put ev_60 (by decide)
        have hL := hL.put ev_60 (by decide)
        refine lv_aload_n hx hb dX6_start_89 rfl (lv_at hl 0 rfl) ?_
        refine va_get (D := (dC, dI)) (ci := 6) (v := .ref (a 75)) (C := RX6) (T := TX6) (N := 43) hx hb hts (fun w h => List.mem_cons_of_mem _ (inWX6 w h)) hown hK hP 45 at_45 rfl 38 (by decide) (hts _ (List.mem_cons_of_mem _ kw_t3_79)) (fun _ h9 => h9) rfl dX6_start_90 ?_
        refine lv_aload_n hx hb dX6_start_93 rfl (lv_at hl 0 rfl) ?_
        refine va_get (D := (dC, dI)) (ci := 6) (v := .int (v_60 45 4)) (C := RX6) (T := TX6) (N := 43) hx hb hts (fun w h => List.mem_cons_of_mem _ (inWX6 w h)) hown hK hP 45 at_45 rfl 4 (by decide) (hts _ (List.mem_cons_of_mem _ kw_t3_45)) (fun _ h9 => h9) rfl dX6_start_94 ?_
        refine lv_topi (fun t_61 et_61 => ?_)
        obtain rfl : t_43 = t_61 := et_43.trans ((congrFun (show v_60 45 = v_42 45 from (by rw [ev_60, mU_ne _ _ (by first | decide | omega), ev_57, mU_ne _ _ (by first | decide | omega), ev_44, mU_ne _ _ (by first | decide | omega)])) 4).symm.trans et_61.symm)
        refine lv_aload_n hx hb dX6_start_97 rfl (lv_at hl 0 rfl) ?_
        refine va_get (D := (dC, dI)) (ci := 6) (v := .int (v_60 45 1)) (C := RX6) (T := TX6) (N := 43) hx hb hts (fun w h => List.mem_cons_of_mem _ (inWX6 w h)) hown hK hP 45 at_45 rfl 1 (by decide) (hts _ (List.mem_cons_of_mem _ kw_t3_42)) (fun _ h9 => h9) rfl dX6_start_98 ?_
        refine lv_topi (fun t_62 et_62 => ?_)
        obtain rfl : t_4 = t_62 := et_4.trans ((congrFun (show v_60 45 = v_3 45 from (by rw [ev_60, mU_ne _ _ (by first | decide | omega), ev_57, mU_ne _ _ (by first | decide | omega), ev_44, mU_ne _ _ (by first | decide | omega), ev_42, mU_ne _ _ (by first | decide | omega), ev_5, mU_ne _ _ (by first | decide | omega)])) 1).symm.trans et_62.symm)
        refine va_iast hx hb hK hP (mD_of hD hAc) hS 75 0 at_75 rfl (kt_inN ex_56 (by omega) (by decide)) dX6_start_101 (fun H locs hP _ hS => ?_)
        obtain ⟨v_63, ev_63⟩ : ∃ z, z = mU v_60 75 (upd (v_60 75) ix_56 t_4) := ⟨_, rfl⟩
        have hP : va_P (dC, dI) vwCl (mW cI cZ cS cC cJ a v_63) H := by rw [ev_63]; exact mW_put hP (by omega) (by rw [ex_56, nI_clamp (by omega)]; rfl)
        have hB := hB.put ev_63 (by decide)
        have hL := hL.put ev_63 (by decide)
        refine lv_aload_n hx hb dX6_start_102 rfl (lv_at hl 0 rfl) ?_
        refine va_get (D := (dC, dI)) (ci := 6) (v := .ref (a 76)) (C := RX6) (T := TX6) (N := 43) hx hb hts (fun w h => List.mem_cons_of_mem _ (inWX6 w h)) hown hK hP 45 at_45 rfl 39 (by decide) (hts _ (List.mem_cons_of_mem _ kw_t3_80)) (fun _ h9 => h9) rfl dX6_start_103 ?_
        refine lv_aload_n hx hb dX6_start_106 rfl (lv_at hl 0 rfl) ?_
        refine va_get (D := (dC, dI)) (ci := 6) (v := .int (v_63 45 4)) (C := RX6) (T := TX6) (N := 43) hx hb hts (fun w h => List.mem_cons_of_mem _ (inWX6 w h)) hown hK hP 45 at_45 rfl 4 (by decide) (hts _ (List.mem_cons_of_mem _ kw_t3_45)) (fun _ h9 => h9) rfl dX6_start_107 ?_
        refine lv_topi (fun t_64 et_64 => ?_)
        obtain rfl : t_43 = t_64 := et_43.trans ((congrFun (show v_63 45 = v_42 45 from (by rw [ev_63, mU_ne _ _ (by first | decide | omega), ev_60, mU_ne _ _ (by first | decide | omega), ev_57, mU_ne _ _ (by first | decide | omega), ev_44, mU_ne _ _ (by first | decide | omega)])) 4).symm.trans et_64.symm)
        refine lv_iconst (v := (-1)) hx hb dX6_start_110 (by decide) ?_
        refine va_iast hx hb hK hP (mD_of hD hAc) hS 76 0 at_76 rfl (kt_inN ex_56 (by omega) (by decide)) dX6_start_111 (fun H locs hP _ hS => ?_)
        obtain ⟨v_65, ev_65⟩ : ∃ z, z = mU v_63 76 (upd (v_63 76) ix_56 (-1)) := ⟨_, rfl⟩
        have hP : va_P (dC, dI) vwCl (mW cI cZ cS cC cJ a v_65) H := by rw [ev_65]; exact mW_put hP (by omega) (by rw [ex_56, nI_clamp (by omega)]; rfl)
        have hB := hB.put ev_65 (by decide)
        have hL := hL.put ev_65 (by decide)
        refine lv_aload_n hx hb dX6_start_112 rfl (lv_at hl 0 rfl) ?_
        refine va_get (D := (dC, dI)) (ci := 6) (v := .ref (a 77)) (C := RX6) (T := TX6) (N := 43) hx hb hts (fun w h => List.mem_cons_of_mem _ (inWX6 w h)) hown hK hP 45 at_45 rfl 40 (by decide) (hts _ (List.mem_cons_of_mem _ kw_t3_81)) (fun _ h9 => h9) rfl dX6_start_113 ?_
        refine lv_aload_n hx hb dX6_start_116 rfl (lv_at hl 0 rfl) ?_
        refine va_get (D := (dC, dI)) (ci := 6) (v := .int (v_65 45 4)) (C := RX6) (T := TX6) (N := 43) hx hb hts (fun w h => List.mem_cons_of_mem _ (inWX6 w h)) hown hK hP 45 at_45 rfl 4 (by decide) (hts _ (List.mem_cons_of_mem _ kw_t3_45)) (fun _ h9 => h9) rfl dX6_start_117 ?_
        refine lv_topi (fun t_66 et_66 => ?_)
        obtain rfl : t_43 = t_66 := et_43.trans ((congrFun (show v_65 45 = v_42 45 from (by rw [ev_65, mU_ne _ _ (by first | decide | omega), ev_63, mU_ne _ _ (by first | decide | omega), ev_60, mU_ne _ _ (by first | decide | omega), ev_57, mU_ne _ _ (by first | decide | omega), ev_44, mU_ne _ _ (by first | decide | omega)])) 4).symm.trans et_66.symm)
        refine lv_iload_n hx hb dX6_start_120 rfl (lv_at hl 2 rfl) ?_
        refine va_zast hx hb hK hP (mD_of hD hAc) hS 77 1 at_77 rfl (kt_inN ex_56 (by omega) (by decide)) dX6_start_121 (fun H locs hP _ hS => ?_)
        obtain ⟨v_67, ev_67⟩ : ∃ z, z = mU v_65 77 (upd (v_65 77) ix_56 (vp_nar .boolean p1)) := ⟨_, rfl⟩
        have hP : va_P (dC, dI) vwCl (mW cI cZ cS cC cJ a v_67) H := by rw [ev_67]; exact mW_put hP (by omega) (by rw [ex_56, nI_clamp (by omega)]; rfl)
        have hB := hB.put ev_67 (by decide)
        have hL := hL.put ev_67 (by decide)
        refine lv_aload_n hx hb dX6_start_122 rfl (lv_at hl 0 rfl) ?_
        refine lv_dup hx hb dX6_start_123 rfl ?_
        refine va_get (D := (dC, dI)) (ci := 6) (v := .int (v_67 45 4)) (C := RX6) (T := TX6) (N := 43) hx hb hts (fun w h => List.mem_cons_of_mem _ (inWX6 w h)) hown hK hP 45 at_45 rfl 4 (by decide) (hts _ (List.mem_cons_of_mem _ kw_t3_45)) (fun _ h9 => h9) rfl dX6_start_124 ?_
        refine lv_topi (fun t_68 et_68 => ?_)
        obtain rfl : t_43 = t_68 := et_43.trans ((congrFun (show v_67 45 = v_42 45 from (by rw [ev_67, mU_ne _ _ (by first | decide | omega), ev_65, mU_ne _ _ (by first | decide | omega), ev_63, mU_ne _ _ (by first | decide | omega), ev_60, mU_ne _ _ (by first | decide | omega), ev_57, mU_ne _ _ (by first | decide | omega), ev_44, mU_ne _ _ (by first | decide | omega)])) 4).symm.trans et_68.symm)
        refine lv_iconst (v := 1) hx hb dX6_start_127 (by decide) ?_
        refine lv_iadd hx hb dX6_start_128 ?_
        refine lv_topi (fun t_69 et_69 => ?_)
        refine va_put (D := (dC, dI)) (ci := 6) (v := .int t_69) (ty := .int) (C := RX6) (T := TX6) (N := 43) hx hb hts (fun w h => List.mem_cons_of_mem _ (inWX6 w h)) tyX6 tyX6_ok nmX6 hown hK hP (mD_of hD hAc) hS 45 at_45 rfl 4 (by decide) (hts _ (List.mem_cons_of_mem _ kw_t3_45)) (fun _ h9 => h9) rfl (by decide +kernel) rfl rfl (Nat.le_of_ble_eq_true rfl) dX6_start_129 (fun H locs hP _ hS => ?_)
        obtain ⟨v_70, ev_70⟩ : ∃ z, z = mU v_67 45 (upd (v_67 45) 4 t_69) := ⟨_, rfl⟩
        have hP : va_P (dC, dI) vwCl (mW cI cZ cS cC cJ a v_70) H := by rw [ev_70]; exact mW_put hP (by omega) rfl
        have hy9 := kt_addI (x := t_43) (by omega) (by omega) et_69
        have hB := hB.putM (m := gn + 1) ev_70 (by decide) (by rw [if_pos rfl]; exact ⟨by omega, by omega⟩)
        have hL := hL.putM ev_70 (by decide)
        refine lv_aload_n hx hb dX6_start_132 rfl (lv_at hl 0 rfl) ?_
        refine lv_iload_n hx hb dX6_start_133 rfl (lv_at hl 1 rfl) ?_
        refine lv_aload_n hx hb dX6_start_134 rfl (lv_at hl 0 rfl) ?_
        refine va_get (D := (dC, dI)) (ci := 6) (v := .ref (a 46)) (C := RX6) (T := TX6) (N := 43) hx hb hts (fun w h => List.mem_cons_of_mem _ (inWX6 w h)) hown hK hP 45 at_45 rfl 9 (by decide) (hts _ (List.mem_cons_of_mem _ kw_t3_50)) (fun _ h9 => h9) rfl dX6_start_135 ?_
        refine lv_iload_n hx hb dX6_start_138 rfl (lv_at hl 1 rfl) ?_
        refine va_iald hx hb hK hP 46 0 at_46 rfl (kt_inN ei0 (by omega) (by decide)) dX6_start_139 ?_
        refine lv_topi (fun t_71 et_71 => ?_)
        rw [ei0, nI_clamp (by omega)] at et_71
        refine lv_if_ne (tgt := 147) hx hb dX6_start_140 (by decide) (fun c_72 => ?_) (fun c_72 => ?_)
        · refine lv_iconst (v := 5) hx hb dX6_start_147 (by decide) ?_
          have hFc := mA_free (a := a) hS hA hAc
          refine va_callv (va_runV (As := [.int p0, .int 5]) (rest := []) ⟨hx, hb, hml, hown, hts⟩ (c_X6_begins l dC dI cI cZ cS cC cJ a v_70 H.size p0 5 hD (gn + 1) (by omega) hB.self i0 (by omega) ei0 0 (rL.zero hL (rL.at0 hL hi0 (by rw [show v_70 52 = v 52 from (by rw [ev_70, mU_ne _ _ (by first | decide | omega), ev_67, mU_ne _ _ (by first | decide | omega), ev_65, mU_ne _ _ (by first | decide | omega), ev_63, mU_ne _ _ (by first | decide | omega), ev_60, mU_ne _ _ (by first | decide | omega), ev_57, mU_ne _ _ (by first | decide | omega), ev_44, mU_ne _ _ (by first | decide | omega), ev_42, mU_ne _ _ (by first | decide | omega), ev_5, mU_ne _ _ (by first | decide | omega), ev_3, mU_ne _ _ (by first | decide | omega)])]; exact h0))) (Or.inl ⟨rfl, by decide⟩)) (cwV 2 hts (gV (fun w h => List.mem_cons_of_mem _ h) kw_t3_236 kw_t3_238 kw_s0_19 kw_t1_7 kw_t3_239) rfl rfl rfl (by decide +kernel) ⟨Nat.le_of_ble_eq_true rfl, Nat.le_of_ble_eq_true rfl⟩) ⟨fun av U g mk q => by obtain ⟨q0, q1, qP, qK, qN⟩ := q; exact ⟨q0, q1, qP, va_K.moved (u := U) (U := U.calling g mk av) (Vm.Alike.refl U.vm) qK, mN_same qN⟩, va_recv hK hP (ci := 6) (q0 := 45) rfl at_45, fun U hU hW => ⟨rfl, by rw [hU], by rw [hU]; exact hP, va_K.moved hW.alike hK, mN_warm hW hN⟩⟩ rfl rfl hl.1 rfl (lv_room (Nat.le_of_ble_eq_true rfl)) dX6_start_148 ⟨Nat.le_of_ble_eq_true rfl, Nat.le_of_ble_eq_true rfl⟩) hS (fun q _ h => hFc q h) hFc (fun v_73 t H locs ht hvm hw_73 hP _ _ hS => ?_)
          have hP := kt_heap2 ht hP
          clear ht hFc
          have hP : va_P (dC, dI) vwCl (mW cI cZ cS cC cJ a v_73) H := hP
          have hB := hB.trans hw_73.1
          have hL := hw_73.2.1
          exact W.vret hx hb hr (fun t ht hW => ⟨⟨v_73, rfl, ⟨hB, hL⟩, kt_heap ht hP⟩, hS.F ht⟩) hS.2.2 dX6_start_151
        · refine lv_iconst (v := 1) hx hb dX6_start_143 (by decide) ?_
          refine lv_goto (tgt := 148) hx hb dX6_start_144 (by decide) ?_
          have hFc := mA_free (a := a) hS hA hAc
          refine va_callv (va_runV (As := [.int p0, .int 1]) (rest := []) ⟨hx, hb, hml, hown, hts⟩ (c_X6_begins l dC dI cI cZ cS cC cJ a v_70 H.size p0 1 hD (gn + 1) (by omega) hB.self i0 (by omega) ei0 0 (rL.zero hL (rL.at0 hL hi0 (by rw [show v_70 52 = v 52 from (by rw [ev_70, mU_ne _ _ (by first | decide | omega), ev_67, mU_ne _ _ (by first | decide | omega), ev_65, mU_ne _ _ (by first | decide | omega), ev_63, mU_ne _ _ (by first | decide | omega), ev_60, mU_ne _ _ (by first | decide | omega), ev_57, mU_ne _ _ (by first | decide | omega), ev_44, mU_ne _ _ (by first | decide | omega), ev_42, mU_ne _ _ (by first | decide | omega), ev_5, mU_ne _ _ (by first | decide | omega), ev_3, mU_ne _ _ (by first | decide | omega)])]; exact h0))) (Or.inl ⟨rfl, by decide⟩)) (cwV 2 hts (gV (fun w h => List.mem_cons_of_mem _ h) kw_t3_236 kw_t3_238 kw_s0_19 kw_t1_7 kw_t3_239) rfl rfl rfl (by decide +kernel) ⟨Nat.le_of_ble_eq_true rfl, Nat.le_of_ble_eq_true rfl⟩) ⟨fun av U g mk q => by obtain ⟨q0, q1, qP, qK, qN⟩ := q; exact ⟨q0, q1, qP, va_K.moved (u := U) (U := U.calling g mk av) (Vm.Alike.refl U.vm) qK, mN_same qN⟩, va_recv hK hP (ci := 6) (q0 := 45) rfl at_45, fun U hU hW => ⟨rfl, by rw [hU], by rw [hU]; exact hP, va_K.moved hW.alike hK, mN_warm hW hN⟩⟩ rfl rfl hl.1 rfl (lv_room (Nat.le_of_ble_eq_true rfl)) dX6_start_148 ⟨Nat.le_of_ble_eq_true rfl, Nat.le_of_ble_eq_true rfl⟩) hS (fun q _ h => hFc q h) hFc (fun v_74 t H locs ht hvm hw_74 hP _ _ hS => ?_)
          have hP := kt_heap2 ht hP
          clear ht hFc
          have hP : va_P (dC, dI) vwCl (mW cI cZ cS cC cJ a v_74) H := hP
          have hB := hB.trans hw_74.1
          have hL := hw_74.2.1
          exact W.vret hx hb hr (fun t ht hW => ⟨⟨v_74, rfl, ⟨hB, hL⟩, kt_heap ht hP⟩, hS.F ht⟩) hS.2.2 dX6_start_151
    · refine lv_iconst (v := 1) hx hb dX6_start_38 (by decide) ?_
      refine lv_goto (tgt := 43) hx hb dX6_start_39 (by decide) ?_
      refine va_zast hx hb hK hP (mD_of hD hAc) hS 58 1 at_58 rfl (kt_inN ei0 (by omega) (by decide)) dX6_start_43 (fun H locs hP _ hS => ?_)
      obtain ⟨v_75, ev_75⟩ : ∃ z, z = mU v_5 58 (upd (v_5 58) i0 (vp_nar .boolean 1)) := ⟨_, rfl⟩
      have hP : va_P (dC, dI) vwCl (mW cI cZ cS cC cJ a v_75) H := by rw [ev_75]; exact mW_put hP (by omega) (by rw [ei0, nI_clamp (by omega)]; rfl)
      have hB := hB.put ev_75 (by decide)
      have hL := hL.put ev_75 (by decide)
      refine lv_aload_n hx hb dX6_start_44 rfl (lv_at hl 0 rfl) ?_
      refine va_get (D := (dC, dI)) (ci := 6) (v := .ref (a 57)) (C := RX6) (T := TX6) (N := 43) hx hb hts (fun w h => List.mem_cons_of_mem _ (inWX6 w h)) hown hK hP 45 at_45 rfl 20 (by decide) (hts _ (List.mem_cons_of_mem _ kw_t3_61)) (fun _ h9 => h9) rfl dX6_start_45 ?_
      refine lv_iload_n hx hb dX6_start_48 rfl (lv_at hl 1 rfl) ?_
      refine lv_aload_n hx hb dX6_start_49 rfl (lv_at hl 0 rfl) ?_
      refine va_get (D := (dC, dI)) (ci := 6) (v := .int (v_75 45 4)) (C := RX6) (T := TX6) (N := 43) hx hb hts (fun w h => List.mem_cons_of_mem _ (inWX6 w h)) hown hK hP 45 at_45 rfl 4 (by decide) (hts _ (List.mem_cons_of_mem _ kw_t3_45)) (fun _ h9 => h9) rfl dX6_start_50 ?_
      refine lv_topi (fun t_76 et_76 => ?_)
      have hsc_76 : 0 ≤ t_76.toInt ∧ t_76.toInt ≤ gn := by rw [et_76]; exact hB.tn
      refine va_iast hx hb hK hP (mD_of hD hAc) hS 57 0 at_57 rfl (kt_inN ei0 (by omega) (by decide)) dX6_start_53 (fun H locs hP _ hS => ?_)
      obtain ⟨v_77, ev_77⟩ : ∃ z, z = mU v_75 57 (upd (v_75 57) i0 t_76) := ⟨_, rfl⟩
      have hP : va_P (dC, dI) vwCl (mW cI cZ cS cC cJ a v_77) H := by rw [ev_77]; exact mW_put hP (by omega) (by rw [ei0, nI_clamp (by omega)]; rfl)
      have hB := hB.put57 ev_77 (by omega)
      have hL := hL.put ev_77 (by decide)
      refine lv_aload_n hx hb dX6_start_54 rfl (lv_at hl 0 rfl) ?_
      refine va_get (D := (dC, dI)) (ci := 6) (v := .int (v_77 45 4)) (C := RX6) (T := TX6) (N := 43) hx hb hts (fun w h => List.mem_cons_of_mem _ (inWX6 w h)) hown hK hP 45 at_45 rfl 4 (by decide) (hts _ (List.mem_cons_of_mem _ kw_t3_45)) (fun _ h9 => h9) rfl dX6_start_55 ?_
      refine lv_topi (fun t_78 et_78 => ?_)
      obtain rfl : t_76 = t_78 := et_76.trans ((congrFun (show v_77 45 = v_75 45 from (by rw [ev_77, mU_ne _ _ (by first | decide | omega)])) 4).symm.trans et_78.symm)
      refine lv_sipush (v := 500) hx hb dX6_start_58 (by decide) ?_
      refine lv_icmp_ge (tgt := 122) hx hb dX6_start_61 (by decide) (fun c_79 => ?_) (fun c_79 => ?_)
      · refine lv_aload_n hx hb dX6_start_122 rfl (lv_at hl 0 rfl) ?_
        refine lv_dup hx hb dX6_start_123 rfl ?_
        refine va_get (D := (dC, dI)) (ci := 6) (v := .int (v_77 45 4)) (C := RX6) (T := TX6) (N := 43) hx hb hts (fun w h => List.mem_cons_of_mem _ (inWX6 w h)) hown hK hP 45 at_45 rfl 4 (by decide) (hts _ (List.mem_cons_of_mem _ kw_t3_45)) (fun _ h9 => h9) rfl dX6_start_124 ?_
        refine lv_topi (fun t_80 et_80 => ?_)
        obtain rfl : t_76 = t_80 := et_76.trans ((congrFun (show v_77 45 = v_75 45 from (by rw [ev_77, mU_ne _ _ (by first | decide | omega)])) 4).symm.trans et_80.symm)
        refine lv_iconst (v := 1) hx hb dX6_start_127 (by decide) ?_
        refine lv_iadd hx hb dX6_start_128 ?_
        refine lv_topi (fun t_81 et_81 => ?_)
        refine va_put (D := (dC, dI)) (ci := 6) (v := .int t_81) (ty := .int) (C := RX6) (T := TX6) (N := 43) hx hb hts (fun w h => List.mem_cons_of_mem _ (inWX6 w h)) tyX6 tyX6_ok nmX6 hown hK hP (mD_of hD hAc) hS 45 at_45 rfl 4 (by decide) (hts _ (List.mem_cons_of_mem _ kw_t3_45)) (fun _ h9 => h9) rfl (by decide +kernel) rfl rfl (Nat.le_of_ble_eq_true rfl) dX6_start_129 (fun H locs hP _ hS => ?_)
        obtain ⟨v_82, ev_82⟩ : ∃ z, z = mU v_77 45 (upd (v_77 45) 4 t_81) := ⟨_, rfl⟩
        have hP : va_P (dC, dI) vwCl (mW cI cZ cS cC cJ a v_82) H := by rw [ev_82]; exact mW_put hP (by omega) rfl
        have hy9 := kt_addI (x := t_76) (by omega) (by omega) et_81
        have hB := hB.putM (m := gn + 1) ev_82 (by decide) (by rw [if_pos rfl]; exact ⟨by omega, by omega⟩)
        have hL := hL.putM ev_82 (by decide)
        refine lv_aload_n hx hb dX6_start_132 rfl (lv_at hl 0 rfl) ?_
        refine lv_iload_n hx hb dX6_start_133 rfl (lv_at hl 1 rfl) ?_
        refine lv_aload_n hx hb dX6_start_134 rfl (lv_at hl 0 rfl) ?_
        refine va_get (D := (dC, dI)) (ci := 6) (v := .ref (a 46)) (C := RX6) (T := TX6) (N := 43) hx hb hts (fun w h => List.mem_cons_of_mem _ (inWX6 w h)) hown hK hP 45 at_45 rfl 9 (by decide) (hts _ (List.mem_cons_of_mem _ kw_t3_50)) (fun _ h9 => h9) rfl dX6_start_135 ?_
        refine lv_iload_n hx hb dX6_start_138 rfl (lv_at hl 1 rfl) ?_
        refine va_iald hx hb hK hP 46 0 at_46 rfl (kt_inN ei0 (by omega) (by decide)) dX6_start_139 ?_
        refine lv_topi (fun t_83 et_83 => ?_)
        rw [ei0, nI_clamp (by omega)] at et_83
        refine lv_if_ne (tgt := 147) hx hb dX6_start_140 (by decide) (fun c_84 => ?_) (fun c_84 => ?_)
        · refine lv_iconst (v := 5) hx hb dX6_start_147 (by decide) ?_
          have hFc := mA_free (a := a) hS hA hAc
          refine va_callv (va_runV (As := [.int p0, .int 5]) (rest := []) ⟨hx, hb, hml, hown, hts⟩ (c_X6_begins l dC dI cI cZ cS cC cJ a v_82 H.size p0 5 hD (gn + 1) (by omega) hB.self i0 (by omega) ei0 0 (rL.zero hL (rL.at0 hL hi0 (by rw [show v_82 52 = v 52 from (by rw [ev_82, mU_ne _ _ (by first | decide | omega), ev_77, mU_ne _ _ (by first | decide | omega), ev_75, mU_ne _ _ (by first | decide | omega), ev_5, mU_ne _ _ (by first | decide | omega), ev_3, mU_ne _ _ (by first | decide | omega)])]; exact h0))) (Or.inl ⟨rfl, by decide⟩)) (cwV 2 hts (gV (fun w h => List.mem_cons_of_mem _ h) kw_t3_236 kw_t3_238 kw_s0_19 kw_t1_7 kw_t3_239) rfl rfl rfl (by decide +kernel) ⟨Nat.le_of_ble_eq_true rfl, Nat.le_of_ble_eq_true rfl⟩) ⟨fun av U g mk q => by obtain ⟨q0, q1, qP, qK, qN⟩ := q; exact ⟨q0, q1, qP, va_K.moved (u := U) (U := U.calling g mk av) (Vm.Alike.refl U.vm) qK, mN_same qN⟩, va_recv hK hP (ci := 6) (q0 := 45) rfl at_45, fun U hU hW => ⟨rfl, by rw [hU], by rw [hU]; exact hP, va_K.moved hW.alike hK, mN_warm hW hN⟩⟩ rfl rfl hl.1 rfl (lv_room (Nat.le_of_ble_eq_true rfl)) dX6_start_148 ⟨Nat.le_of_ble_eq_true rfl, Nat.le_of_ble_eq_true rfl⟩) hS (fun q _ h => hFc q h) hFc (fun v_85 t H locs ht hvm hw_85 hP _ _ hS => ?_)
          have hP := kt_heap2 ht hP
          clear ht hFc
          have hP : va_P (dC, dI) vwCl (mW cI cZ cS cC cJ a v_85) H := hP
          have hB := hB.trans hw_85.1
          have hL := hw_85.2.1
          exact W.vret hx hb hr (fun t ht hW => ⟨⟨v_85, rfl, ⟨hB, hL⟩, kt_heap ht hP⟩, hS.F ht⟩) hS.2.2 dX6_start_151
        · refine lv_iconst (v := 1) hx hb dX6_start_143 (by decide) ?_
          refine lv_goto (tgt := 148) hx hb dX6_start_144 (by decide) ?_
          have hFc := mA_free (a := a) hS hA hAc
          refine va_callv (va_runV (As := [.int p0, .int 1]) (rest := []) ⟨hx, hb, hml, hown, hts⟩ (c_X6_begins l dC dI cI cZ cS cC cJ a v_82 H.size p0 1 hD (gn + 1) (by omega) hB.self i0 (by omega) ei0 0 (rL.zero hL (rL.at0 hL hi0 (by rw [show v_82 52 = v 52 from (by rw [ev_82, mU_ne _ _ (by first | decide | omega), ev_77, mU_ne _ _ (by first | decide | omega), ev_75, mU_ne _ _ (by first | decide | omega), ev_5, mU_ne _ _ (by first | decide | omega), ev_3, mU_ne _ _ (by first | decide | omega)])]; exact h0))) (Or.inl ⟨rfl, by decide⟩)) (cwV 2 hts (gV (fun w h => List.mem_cons_of_mem _ h) kw_t3_236 kw_t3_238 kw_s0_19 kw_t1_7 kw_t3_239) rfl rfl rfl (by decide +kernel) ⟨Nat.le_of_ble_eq_true rfl, Nat.le_of_ble_eq_true rfl⟩) ⟨fun av U g mk q => by obtain ⟨q0, q1, qP, qK, qN⟩ := q; exact ⟨q0, q1, qP, va_K.moved (u := U) (U := U.calling g mk av) (Vm.Alike.refl U.vm) qK, mN_same qN⟩, va_recv hK hP (ci := 6) (q0 := 45) rfl at_45, fun U hU hW => ⟨rfl, by rw [hU], by rw [hU]; exact hP, va_K.moved hW.alike hK, mN_warm hW hN⟩⟩ rfl rfl hl.1 rfl (lv_room (Nat.le_of_ble_eq_true rfl)) dX6_start_148 ⟨Nat.le_of_ble_eq_true rfl, Nat.le_of_ble_eq_true rfl⟩) hS (fun q _ h => hFc q h) hFc (fun v_86 t H locs ht hvm hw_86 hP _ _ hS => ?_)
          have hP := kt_heap2 ht hP
          clear ht hFc
          have hP : va_P (dC, dI) vwCl (mW cI cZ cS cC cJ a v_86) H := hP
          have hB := hB.trans hw_86.1
          have hL := hw_86.2.1
          exact W.vret hx hb hr (fun t ht hW => ⟨⟨v_86, rfl, ⟨hB, hL⟩, kt_heap ht hP⟩, hS.F ht⟩) hS.2.2 dX6_start_151
      · refine lv_aload_n hx hb dX6_start_64 rfl (lv_at hl 0 rfl) ?_
        refine va_get (D := (dC, dI)) (ci := 6) (v := .ref (a 73)) (C := RX6) (T := TX6) (N := 43) hx hb hts (fun w h => List.mem_cons_of_mem _ (inWX6 w h)) hown hK hP 45 at_45 rfl 36 (by decide) (hts _ (List.mem_cons_of_mem _ kw_t3_77)) (fun _ h9 => h9) rfl dX6_start_65 ?_
        refine lv_aload_n hx hb dX6_start_68 rfl (lv_at hl 0 rfl) ?_
        refine va_get (D := (dC, dI)) (ci := 6) (v := .int (v_77 45 4)) (C := RX6) (T := TX6) (N := 43) hx hb hts (fun w h => List.mem_cons_of_mem _ (inWX6 w h)) hown hK hP 45 at_45 rfl 4 (by decide) (hts _ (List.mem_cons_of_mem _ kw_t3_45)) (fun _ h9 => h9) rfl dX6_start_69 ?_
        refine lv_topi (fun t_87 et_87 => ?_)
        obtain rfl : t_76 = t_87 := et_76.trans ((congrFun (show v_77 45 = v_75 45 from (by rw [ev_77, mU_ne _ _ (by first | decide | omega)])) 4).symm.trans et_87.symm)
        refine lv_iload_n hx hb dX6_start_72 rfl (lv_at hl 1 rfl) ?_
        obtain ⟨ix_89, hx_89, ex_89⟩ := kt_idx (x := t_76) (n := 500) (by have z0 := c_6; have z1 := c_41; have z2 := hsc_76; have z3 := c_79; (try simp only [Int32.lt_iff_toInt_lt, Int32.le_iff_toInt_le, ← Int32.toInt_inj, L0, L1, L2, L3, L4, L6, L9, L500, L5, L7, L10, L12, L15, L16, L20, L63, L1000, L1023, L2000, L10000, L100000, Lm1] at z0 z1 z2 z3); omega) (by have z0 := c_6; have z1 := c_41; have z2 := hsc_76; have z3 := c_79; (try simp only [Int32.lt_iff_toInt_lt, Int32.le_iff_toInt_le, ← Int32.toInt_inj, L0, L1, L2, L3, L4, L6, L9, L500, L5, L7, L10, L12, L15, L16, L20, L63, L1000, L1023, L2000, L10000, L100000, Lm1] at z0 z1 z2 z3); omega)
        refine va_iast hx hb hK hP (mD_of hD hAc) hS 73 0 at_73 rfl (kt_inN ex_89 (by omega) (by decide)) dX6_start_73 (fun H locs hP _ hS => ?_)
        obtain ⟨v_90, ev_90⟩ : ∃ z, z = mU v_77 73 (upd (v_77 73) ix_89 p0) := ⟨_, rfl⟩
        have hP : va_P (dC, dI) vwCl (mW cI cZ cS cC cJ a v_90) H := by rw [ev_90]; exact mW_put hP (by omega) (by rw [ex_89, nI_clamp (by omega)]; rfl)
        have hB := hB.put ev_90 (by decide)
        have hL := hL.put ev_90 (by decide)
        refine lv_aload_n hx hb dX6_start_74 rfl (lv_at hl 0 rfl) ?_
        refine va_get (D := (dC, dI)) (ci := 6) (v := .ref (a 74)) (C := RX6) (T := TX6) (N := 43) hx hb hts (fun w h => List.mem_cons_of_mem _ (inWX6 w h)) hown hK hP 45 at_45 rfl 37 (by decide) (hts _ (List.mem_cons_of_mem _ kw_t3_78)) (fun _ h9 => h9) rfl dX6_start_75 ?_
        refine lv_aload_n hx hb dX6_start_78 rfl (lv_at hl 0 rfl) ?_
        refine va_get (D := (dC, dI)) (ci := 6) (v := .int (v_90 45 4)) (C := RX6) (T := TX6) (N := 43) hx hb hts (fun w h => List.mem_cons_of_mem _ (inWX6 w h)) hown hK hP 45 at_45 rfl 4 (by decide) (hts _ (List.mem_cons_of_mem _ kw_t3_45)) (fun _ h9 => h9) rfl dX6_start_79 ?_
        refine lv_topi (fun t_91 et_91 => ?_)
        obtain rfl : t_76 = t_91 := et_76.trans ((congrFun (show v_90 45 = v_75 45 from (by rw [ev_90, mU_ne _ _ (by first | decide | omega), ev_77, mU_ne _ _ (by first | decide | omega)])) 4).symm.trans et_91.symm)
        refine lv_aload_n hx hb dX6_start_82 rfl (lv_at hl 0 rfl) ?_
        refine va_get (D := (dC, dI)) (ci := 6) (v := .ref (a 50)) (C := RX6) (T := TX6) (N := 43) hx hb hts (fun w h => List.mem_cons_of_mem _ (inWX6 w h)) hown hK hP 45 at_45 rfl 13 (by decide) (hts _ (List.mem_cons_of_mem _ kw_t3_54)) (fun _ h9 => h9) rfl dX6_start_83 ?_
        refine lv_iload_n hx hb dX6_start_86 rfl (lv_at hl 1 rfl) ?_
        refine va_iald hx hb hK hP 50 0 at_50 rfl (kt_inN ei0 (by omega) (by decide)) dX6_start_87 ?_
        refine lv_topi (fun t_92 et_92 => ?_)
        rw [ei0, nI_clamp (by omega)] at et_92
        refine va_iast hx hb hK hP (mD_of hD hAc) hS 74 0 at_74 rfl (kt_inN ex_89 (by omega) (by decide)) dX6_start_88 (fun H locs hP _ hS => ?_)
        obtain ⟨v_93, ev_93⟩ : ∃ z, z = mU v_90 74 (upd (v_90 74) ix_89 t_92) := ⟨_, rfl⟩
        have hP : va_P (dC, dI) vwCl (mW cI cZ cS cC cJ a v_93) H := by rw [ev_93]; exact mW_put hP (by omega) (by rw [ex_89, nI_clamp (by omega)]; rfl)
        have hB := hB.put ev_93 (by decide)
        have hL := hL.put ev_93 (by decide)
        refine lv_aload_n hx hb dX6_start_89 rfl (lv_at hl 0 rfl) ?_
        refine va_get (D := (dC, dI)) (ci := 6) (v := .ref (a 75)) (C := RX6) (T := TX6) (N := 43) hx hb hts (fun w h => List.mem_cons_of_mem _ (inWX6 w h)) hown hK hP 45 at_45 rfl 38 (by decide) (hts _ (List.mem_cons_of_mem _ kw_t3_79)) (fun _ h9 => h9) rfl dX6_start_90 ?_
        refine lv_aload_n hx hb dX6_start_93 rfl (lv_at hl 0 rfl) ?_
        refine va_get (D := (dC, dI)) (ci := 6) (v := .int (v_93 45 4)) (C := RX6) (T := TX6) (N := 43) hx hb hts (fun w h => List.mem_cons_of_mem _ (inWX6 w h)) hown hK hP 45 at_45 rfl 4 (by decide) (hts _ (List.mem_cons_of_mem _ kw_t3_45)) (fun _ h9 => h9) rfl dX6_start_94 ?_
        refine lv_topi (fun t_94 et_94 => ?_)
        obtain rfl : t_76 = t_94 := et_76.trans ((congrFun (show v_93 45 = v_75 45 from (by rw [ev_93, mU_ne _ _ (by first | decide | omega), ev_90, mU_ne _ _ (by first | decide | omega), ev_77, mU_ne _ _ (by first | decide | omega)])) 4).symm.trans et_94.symm)
        refine lv_aload_n hx hb dX6_start_97 rfl (lv_at hl 0 rfl) ?_
        refine va_get (D := (dC, dI)) (ci := 6) (v := .int (v_93 45 1)) (C := RX6) (T := TX6) (N := 43) hx hb hts (fun w h => List.mem_cons_of_mem _ (inWX6 w h)) hown hK hP 45 at_45 rfl 1 (by decide) (hts _ (List.mem_cons_of_mem _ kw_t3_42)) (fun _ h9 => h9) rfl dX6_start_98 ?_
        refine lv_topi (fun t_95 et_95 => ?_)
        obtain rfl : t_4 = t_95 := et_4.trans ((congrFun (show v_93 45 = v_3 45 from (by rw [ev_93, mU_ne _ _ (by first | decide | omega), ev_90, mU_ne _ _ (by first | decide | omega), ev_77, mU_ne _ _ (by first | decide | omega), ev_75, mU_ne _ _ (by first | decide | omega), ev_5, mU_ne _ _ (by first | decide | omega)])) 1).symm.trans et_95.symm)
        refine va_iast hx hb hK hP (mD_of hD hAc) hS 75 0 at_75 rfl (kt_inN ex_89 (by omega) (by decide)) dX6_start_101 (fun H locs hP _ hS => ?_)
        obtain ⟨v_96, ev_96⟩ : ∃ z, z = mU v_93 75 (upd (v_93 75) ix_89 t_4) := ⟨_, rfl⟩
        have hP : va_P (dC, dI) vwCl (mW cI cZ cS cC cJ a v_96) H := by rw [ev_96]; exact mW_put hP (by omega) (by rw [ex_89, nI_clamp (by omega)]; rfl)
        have hB := hB.put ev_96 (by decide)
        have hL := hL.put ev_96 (by decide)
        refine lv_aload_n hx hb dX6_start_102 rfl (lv_at hl 0 rfl) ?_
        refine va_get (D := (dC, dI)) (ci := 6) (v := .ref (a 76)) (C := RX6) (T := TX6) (N := 43) hx hb hts (fun w h => List.mem_cons_of_mem _ (inWX6 w h)) hown hK hP 45 at_45 rfl 39 (by decide) (hts _ (List.mem_cons_of_mem _ kw_t3_80)) (fun _ h9 => h9) rfl dX6_start_103 ?_
        refine lv_aload_n hx hb dX6_start_106 rfl (lv_at hl 0 rfl) ?_
        refine va_get (D := (dC, dI)) (ci := 6) (v := .int (v_96 45 4)) (C := RX6) (T := TX6) (N := 43) hx hb hts (fun w h => List.mem_cons_of_mem _ (inWX6 w h)) hown hK hP 45 at_45 rfl 4 (by decide) (hts _ (List.mem_cons_of_mem _ kw_t3_45)) (fun _ h9 => h9) rfl dX6_start_107 ?_
        refine lv_topi (fun t_97 et_97 => ?_)
        obtain rfl : t_76 = t_97 := et_76.trans ((congrFun (show v_96 45 = v_75 45 from (by rw [ev_96, mU_ne _ _ (by first | decide | omega), ev_93, mU_ne _ _ (by first | decide | omega), ev_90, mU_ne _ _ (by first | decide | omega), ev_77, mU_ne _ _ (by first | decide | omega)])) 4).symm.trans et_97.symm)
        refine lv_iconst (v := (-1)) hx hb dX6_start_110 (by decide) ?_
        refine va_iast hx hb hK hP (mD_of hD hAc) hS 76 0 at_76 rfl (kt_inN ex_89 (by omega) (by decide)) dX6_start_111 (fun H locs hP _ hS => ?_)
        obtain ⟨v_98, ev_98⟩ : ∃ z, z = mU v_96 76 (upd (v_96 76) ix_89 (-1)) := ⟨_, rfl⟩
        have hP : va_P (dC, dI) vwCl (mW cI cZ cS cC cJ a v_98) H := by rw [ev_98]; exact mW_put hP (by omega) (by rw [ex_89, nI_clamp (by omega)]; rfl)
        have hB := hB.put ev_98 (by decide)
        have hL := hL.put ev_98 (by decide)
        refine lv_aload_n hx hb dX6_start_112 rfl (lv_at hl 0 rfl) ?_
        refine va_get (D := (dC, dI)) (ci := 6) (v := .ref (a 77)) (C := RX6) (T := TX6) (N := 43) hx hb hts (fun w h => List.mem_cons_of_mem _ (inWX6 w h)) hown hK hP 45 at_45 rfl 40 (by decide) (hts _ (List.mem_cons_of_mem _ kw_t3_81)) (fun _ h9 => h9) rfl dX6_start_113 ?_
        refine lv_aload_n hx hb dX6_start_116 rfl (lv_at hl 0 rfl) ?_
        refine va_get (D := (dC, dI)) (ci := 6) (v := .int (v_98 45 4)) (C := RX6) (T := TX6) (N := 43) hx hb hts (fun w h => List.mem_cons_of_mem _ (inWX6 w h)) hown hK hP 45 at_45 rfl 4 (by decide) (hts _ (List.mem_cons_of_mem _ kw_t3_45)) (fun _ h9 => h9) rfl dX6_start_117 ?_
        refine lv_topi (fun t_99 et_99 => ?_)
        obtain rfl : t_76 = t_99 := et_76.trans ((congrFun (show v_98 45 = v_75 45 from (by rw [ev_98, mU_ne _ _ (by first | decide | omega), ev_96, mU_ne _ _ (by first | decide | omega), ev_93, mU_ne _ _ (by first | decide | omega), ev_90, mU_ne _ _ (by first | decide | omega), ev_77, mU_ne _ _ (by first | decide | omega)])) 4).symm.trans et_99.symm)
        refine lv_iload_n hx hb dX6_start_120 rfl (lv_at hl 2 rfl) ?_
        refine va_zast hx hb hK hP (mD_of hD hAc) hS 77 1 at_77 rfl (kt_inN ex_89 (by omega) (by decide)) dX6_start_121 (fun H locs hP _ hS => ?_)
        obtain ⟨v_100, ev_100⟩ : ∃ z, z = mU v_98 77 (upd (v_98 77) ix_89 (vp_nar .boolean p1)) := ⟨_, rfl⟩
        have hP : va_P (dC, dI) vwCl (mW cI cZ cS cC cJ a v_100) H := by rw [ev_100]; exact mW_put hP (by omega) (by rw [ex_89, nI_clamp (by omega)]; rfl)
        have hB := hB.put ev_100 (by decide)
        have hL := hL.put ev_100 (by decide)
        refine lv_aload_n hx hb dX6_start_122 rfl (lv_at hl 0 rfl) ?_
        refine lv_dup hx hb dX6_start_123 rfl ?_
        refine va_get (D := (dC, dI)) (ci := 6) (v := .int (v_100 45 4)) (C := RX6) (T := TX6) (N := 43) hx hb hts (fun w h => List.mem_cons_of_mem _ (inWX6 w h)) hown hK hP 45 at_45 rfl 4 (by decide) (hts _ (List.mem_cons_of_mem _ kw_t3_45)) (fun _ h9 => h9) rfl dX6_start_124 ?_
        refine lv_topi (fun t_101 et_101 => ?_)
        obtain rfl : t_76 = t_101 := et_76.trans ((congrFun (show v_100 45 = v_75 45 from (by rw [ev_100, mU_ne _ _ (by first | decide | omega), ev_98, mU_ne _ _ (by first | decide | omega), ev_96, mU_ne _ _ (by first | decide | omega), ev_93, mU_ne _ _ (by first | decide | omega), ev_90, mU_ne _ _ (by first | decide | omega), ev_77, mU_ne _ _ (by first | decide | omega)])) 4).symm.trans et_101.symm)
        refine lv_iconst (v := 1) hx hb dX6_start_127 (by decide) ?_
        refine lv_iadd hx hb dX6_start_128 ?_
        refine lv_topi (fun t_102 et_102 => ?_)
        refine va_put (D := (dC, dI)) (ci := 6) (v := .int t_102) (ty := .int) (C := RX6) (T := TX6) (N := 43) hx hb hts (fun w h => List.mem_cons_of_mem _ (inWX6 w h)) tyX6 tyX6_ok nmX6 hown hK hP (mD_of hD hAc) hS 45 at_45 rfl 4 (by decide) (hts _ (List.mem_cons_of_mem _ kw_t3_45)) (fun _ h9 => h9) rfl (by decide +kernel) rfl rfl (Nat.le_of_ble_eq_true rfl) dX6_start_129 (fun H locs hP _ hS => ?_)
        obtain ⟨v_103, ev_103⟩ : ∃ z, z = mU v_100 45 (upd (v_100 45) 4 t_102) := ⟨_, rfl⟩
        have hP : va_P (dC, dI) vwCl (mW cI cZ cS cC cJ a v_103) H := by rw [ev_103]; exact mW_put hP (by omega) rfl
        have hy9 := kt_addI (x := t_76) (by omega) (by omega) et_102
        have hB := hB.putM (m := gn + 1) ev_103 (by decide) (by rw [if_pos rfl]; exact ⟨by omega, by omega⟩)
        have hL := hL.putM ev_103 (by decide)
        refine lv_aload_n hx hb dX6_start_132 rfl (lv_at hl 0 rfl) ?_
        refine lv_iload_n hx hb dX6_start_133 rfl (lv_at hl 1 rfl) ?_
        refine lv_aload_n hx hb dX6_start_134 rfl (lv_at hl 0 rfl) ?_
        refine va_get (D := (dC, dI)) (ci := 6) (v := .ref (a 46)) (C := RX6) (T := TX6) (N := 43) hx hb hts (fun w h => List.mem_cons_of_mem _ (inWX6 w h)) hown hK hP 45 at_45 rfl 9 (by decide) (hts _ (List.mem_cons_of_mem _ kw_t3_50)) (fun _ h9 => h9) rfl dX6_start_135 ?_
        refine lv_iload_n hx hb dX6_start_138 rfl (lv_at hl 1 rfl) ?_
        refine va_iald hx hb hK hP 46 0 at_46 rfl (kt_inN ei0 (by omega) (by decide)) dX6_start_139 ?_
        refine lv_topi (fun t_104 et_104 => ?_)
        rw [ei0, nI_clamp (by omega)] at et_104
        refine lv_if_ne (tgt := 147) hx hb dX6_start_140 (by decide) (fun c_105 => ?_) (fun c_105 => ?_)
        · refine lv_iconst (v := 5) hx hb dX6_start_147 (by decide) ?_
          have hFc := mA_free (a := a) hS hA hAc
          refine va_callv (va_runV (As := [.int p0, .int 5]) (rest := []) ⟨hx, hb, hml, hown, hts⟩ (c_X6_begins l dC dI cI cZ cS cC cJ a v_103 H.size p0 5 hD (gn + 1) (by omega) hB.self i0 (by omega) ei0 0 (rL.zero hL (rL.at0 hL hi0 (by rw [show v_103 52 = v 52 from (by rw [ev_103, mU_ne _ _ (by first | decide | omega), ev_100, mU_ne _ _ (by first | decide | omega), ev_98, mU_ne _ _ (by first | decide | omega), ev_96, mU_ne _ _ (by first | decide | omega), ev_93, mU_ne _ _ (by first | decide | omega), ev_90, mU_ne _ _ (by first | decide | omega), ev_77, mU_ne _ _ (by first | decide | omega), ev_75, mU_ne _ _ (by first | decide | omega), ev_5, mU_ne _ _ (by first | decide | omega), ev_3, mU_ne _ _ (by first | decide | omega)])]; exact h0))) (Or.inl ⟨rfl, by decide⟩)) (cwV 2 hts (gV (fun w h => List.mem_cons_of_mem _ h) kw_t3_236 kw_t3_238 kw_s0_19 kw_t1_7 kw_t3_239) rfl rfl rfl (by decide +kernel) ⟨Nat.le_of_ble_eq_true rfl, Nat.le_of_ble_eq_true rfl⟩) ⟨fun av U g mk q => by obtain ⟨q0, q1, qP, qK, qN⟩ := q; exact ⟨q0, q1, qP, va_K.moved (u := U) (U := U.calling g mk av) (Vm.Alike.refl U.vm) qK, mN_same qN⟩, va_recv hK hP (ci := 6) (q0 := 45) rfl at_45, fun U hU hW => ⟨rfl, by rw [hU], by rw [hU]; exact hP, va_K.moved hW.alike hK, mN_warm hW hN⟩⟩ rfl rfl hl.1 rfl (lv_room (Nat.le_of_ble_eq_true rfl)) dX6_start_148 ⟨Nat.le_of_ble_eq_true rfl, Nat.le_of_ble_eq_true rfl⟩) hS (fun q _ h => hFc q h) hFc (fun v_106 t H locs ht hvm hw_106 hP _ _ hS => ?_)
          have hP := kt_heap2 ht hP
          clear ht hFc
          have hP : va_P (dC, dI) vwCl (mW cI cZ cS cC cJ a v_106) H := hP
          have hB := hB.trans hw_106.1
          have hL := hw_106.2.1
          exact W.vret hx hb hr (fun t ht hW => ⟨⟨v_106, rfl, ⟨hB, hL⟩, kt_heap ht hP⟩, hS.F ht⟩) hS.2.2 dX6_start_151
        · refine lv_iconst (v := 1) hx hb dX6_start_143 (by decide) ?_
          refine lv_goto (tgt := 148) hx hb dX6_start_144 (by decide) ?_
          have hFc := mA_free (a := a) hS hA hAc
          refine va_callv (va_runV (As := [.int p0, .int 1]) (rest := []) ⟨hx, hb, hml, hown, hts⟩ (c_X6_begins l dC dI cI cZ cS cC cJ a v_103 H.size p0 1 hD (gn + 1) (by omega) hB.self i0 (by omega) ei0 0 (rL.zero hL (rL.at0 hL hi0 (by rw [show v_103 52 = v 52 from (by rw [ev_103, mU_ne _ _ (by first | decide | omega), ev_100, mU_ne _ _ (by first | decide | omega), ev_98, mU_ne _ _ (by first | decide | omega), ev_96, mU_ne _ _ (by first | decide | omega), ev_93, mU_ne _ _ (by first | decide | omega), ev_90, mU_ne _ _ (by first | decide | omega), ev_77, mU_ne _ _ (by first | decide | omega), ev_75, mU_ne _ _ (by first | decide | omega), ev_5, mU_ne _ _ (by first | decide | omega), ev_3, mU_ne _ _ (by first | decide | omega)])]; exact h0))) (Or.inl ⟨rfl, by decide⟩)) (cwV 2 hts (gV (fun w h => List.mem_cons_of_mem _ h) kw_t3_236 kw_t3_238 kw_s0_19 kw_t1_7 kw_t3_239) rfl rfl rfl (by decide +kernel) ⟨Nat.le_of_ble_eq_true rfl, Nat.le_of_ble_eq_true rfl⟩) ⟨fun av U g mk q => by obtain ⟨q0, q1, qP, qK, qN⟩ := q; exact ⟨q0, q1, qP, va_K.moved (u := U) (U := U.calling g mk av) (Vm.Alike.refl U.vm) qK, mN_same qN⟩, va_recv hK hP (ci := 6) (q0 := 45) rfl at_45, fun U hU hW => ⟨rfl, by rw [hU], by rw [hU]; exact hP, va_K.moved hW.alike hK, mN_warm hW hN⟩⟩ rfl rfl hl.1 rfl (lv_room (Nat.le_of_ble_eq_true rfl)) dX6_start_148 ⟨Nat.le_of_ble_eq_true rfl, Nat.le_of_ble_eq_true rfl⟩) hS (fun q _ h => hFc q h) hFc (fun v_107 t H locs ht hvm hw_107 hP _ _ hS => ?_)
          have hP := kt_heap2 ht hP
          clear ht hFc
          have hP : va_P (dC, dI) vwCl (mW cI cZ cS cC cJ a v_107) H := hP
          have hB := hB.trans hw_107.1
          have hL := hw_107.2.1
          exact W.vret hx hb hr (fun t ht hW => ⟨⟨v_107, rfl, ⟨hB, hL⟩, kt_heap ht hP⟩, hS.F ht⟩) hS.2.2 dX6_start_151
