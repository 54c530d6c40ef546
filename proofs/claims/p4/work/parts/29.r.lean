set_option maxHeartbeats 4000000 in
set_option maxRecDepth 100000 in
theorem c_X6_start (l : Launch) (dC : Nat → ClassId) (dI : Nat → Nat → Nat) (cI cZ cS cC cJ : ClassId) (a : Nat → Nat) (v : Nat → Nat → Int32) (sz : Nat) (p0 p1 : Int32) (hD : mDD a) (gn : Nat) (hn : gn < 100000) (hB : rB gn v v) (hL : rL v) (i0 : Nat) (hi0 : i0 < 12) (ei0 : p0 = nI i0) (h0 : v 52 i0 = 0) : Met l yX6_start (Cond.code yX6_start cX6_start 3 none :: WW) ({ frames := 3, cells := 0, slots := 0, locals := 90 }) (va_Pc [.ref (a 45), .int p0, .int p1] (fun U => U.heap.size = sz ∧ va_P (dC, dI) vwCl (mW cI cZ cS cC cJ a v) U.heap ∧ va_K (dC, dI) vwCl [(cI, .int), (cZ, .boolean), (cS, .object RX3), (cC, .object RX0), (cJ, .long)] U ∧ mN U)) (va_Qv (fun (u : Nat → Nat → Int32) => rB (gn + 1) v u ∧ rL u) (fun (u : Nat → Nat → Int32) (t : State) => va_P (dC, dI) vwCl (mW cI cZ cS cC cJ a u) t.heap) (mA a sz)) 0 0 (mA a sz) := by
  refine Met.ofW (cc := cX6_start) (maxL := 3) (ret := none) (by decide) rfl ?_
  intro p e s m args below meth c s₁ B hml hv
  obtain ⟨rfl, hsz, hP, hK, hN⟩ := hv
  have hx := B.exec
  have hb := B.bytes
  have hr := B.returns
  have hts := atoms_spec (ws := Cond.code yX6_start cX6_start 3 none :: WW) B.pre
  have hown : s.vm.findClass RX6 = some m.cls := findClass_of_methodNamed B.named
  have hlocks := B.notSynchronized
  subst hsz
  have hAc : ∀ c, c < 81 → mA a s.heap.size (a c) := fun c h => Or.inl ⟨c, h, rfl⟩
  have hA : ∀ q : Nat, s.heap.size ≤ q → mA a s.heap.size q := fun q h => Or.inr h
  generalize hAe : mA a s.heap.size = A at hAc hA ⊢
  have hS : va_S A s.heap s.heap [] := va_S.rf
  have hl := lv_entry ([.ref (a 45), .int p0, .int p1]) (n := 3) (Nat.le_of_ble_eq_true rfl)
  rw [lg_entry_eq]
  generalize (lg_sl ([.ref (a 45), .int p0, .int p1]) ++ List.replicate (3 - (lg_sl ([.ref (a 45), .int p0, .int p1])).length) Slot.unset).toArray = ls at hl ⊢
  have hl : lv_has ls 3 [(0, .ref (a 45)), (1, .int p0), (2, .int p1)] := hl
  refine lv_aload_n hx hb dX6_start_0 rfl (lv_at hl 0 rfl) ?_
  refine va_get (D := (dC, dI)) (ci := 6) (v := .ref (a 50)) (C := RX6) (T := TX6) (N := 43) hx hb hts (fun w h => List.mem_cons_of_mem _ (inWX6 w h)) hown hK hP 45 at_45 rfl 13 (by decide) (hts _ (List.mem_cons_of_mem _ kw_t3_54)) (fun _ h9 => h9) rfl dX6_start_1 ?_
  refine lv_iload_n hx hb dX6_start_4 rfl (lv_at hl 1 rfl) ?_
  refine lv_dup2_11 hx hb dX6_start_5 rfl rfl ?_
  refine va_iald hx hb hK hP 50 0 at_50 rfl (kt_inN ei0 (by omega) (by decide)) dX6_start_6 ?_
  refine lv_topi (fun t_1 et_1 => ?_)
  rw [ei0, nI_clamp (by omega)] at et_1
  refine lv_iconst (v := 1) hx hb dX6_start_7 (by decide) ?_
  refine lv_iadd hx hb dX6_start_8 ?_
  refine lv_topi (fun t_2 et_2 => ?_)
  refine va_iast hx hb hK hP (mD_of hD hAc) hS 50 0 at_50 rfl (kt_inN ei0 (by omega) (by decide)) dX6_start_9 (fun H locs hP _ hS => ?_)
  obtain ⟨v_3, ev_3⟩ : ∃ z, z = mU v 50 (upd (v 50) i0 t_2) := ⟨_, rfl⟩
  have hP : va_P (dC, dI) vwCl (mW cI cZ cS cC cJ a v_3) H := by rw [ev_3]; exact mW_put hP (by omega) (by rw [ei0, nI_clamp (by omega)]; rfl)
  have hB := hB.put ev_3 (by decide)
  have hL := hL.put ev_3 (by decide)
  refine lv_aload_n hx hb dX6_start_10 rfl (lv_at hl 0 rfl) ?_
  refine va_get (D := (dC, dI)) (ci := 6) (v := .ref (a 51)) (C := RX6) (T := TX6) (N := 43) hx hb hts (fun w h => List.mem_cons_of_mem _ (inWX6 w h)) hown hK hP 45 at_45 rfl 14 (by decide) (hts _ (List.mem_cons_of_mem _ kw_t3_55)) (fun _ h9 => h9) rfl dX6_start_11 ?_
  refine lv_iload_n hx hb dX6_start_14 rfl (lv_at hl 1 rfl) ?_
  refine lv_aload_n hx hb dX6_start_15 rfl (lv_at hl 0 rfl) ?_
  refine va_get (D := (dC, dI)) (ci := 6) (v := .int (v_3 45 1)) (C := RX6) (T := TX6) (N := 43) hx hb hts (fun w h => List.mem_cons_of_mem _ (inWX6 w h)) hown hK hP 45 at_45 rfl 1 (by decide) (hts _ (List.mem_cons_of_mem _ kw_t3_42)) (fun _ h9 => h9) rfl dX6_start_16 ?_
  refine lv_topi (fun t_4 et_4 => ?_)
  refine va_iast hx hb hK hP (mD_of hD hAc) hS 51 0 at_51 rfl (kt_inN ei0 (by omega) (by decide)) dX6_start_19 (fun H locs hP _ hS => ?_)
  obtain ⟨v_5, ev_5⟩ : ∃ z, z = mU v_3 51 (upd (v_3 51) i0 t_4) := ⟨_, rfl⟩
  have hP : va_P (dC, dI) vwCl (mW cI cZ cS cC cJ a v_5) H := by rw [ev_5]; exact mW_put hP (by omega) (by rw [ei0, nI_clamp (by omega)]; rfl)
  have hB := hB.put ev_5 (by decide)
  have hL := hL.put ev_5 (by decide)
  refine lv_aload_n hx hb dX6_start_20 rfl (lv_at hl 0 rfl) ?_
  refine va_get (D := (dC, dI)) (ci := 6) (v := .ref (a 58)) (C := RX6) (T := TX6) (N := 43) hx hb hts (fun w h => List.mem_cons_of_mem _ (inWX6 w h)) hown hK hP 45 at_45 rfl 21 (by decide) (hts _ (List.mem_cons_of_mem _ kw_t3_62)) (fun _ h9 => h9) rfl dX6_start_21 ?_
  refine lv_iload_n hx hb dX6_start_24 rfl (lv_at hl 1 rfl) ?_
  refine lv_iload_n hx hb dX6_start_25 rfl (lv_at hl 2 rfl) ?_
  refine lv_if_eq (tgt := 42) hx hb dX6_start_26 (by decide) (fun c_6 => ?_) (fun c_6 => ?_)
  · refine lv_iconst (v := 0) hx hb dX6_start_42 (by decide) ?_
    refine va_zast hx hb hK hP (mD_of hD hAc) hS 58 1 at_58 rfl (kt_inN ei0 (by omega) (by decide)) dX6_start_43 (fun H locs hP _ hS => ?_)
    obtain ⟨v_7, ev_7⟩ : ∃ z, z = mU v_5 58 (upd (v_5 58) i0 (vp_nar .boolean 0)) := ⟨_, rfl⟩
    have hP : va_P (dC, dI) vwCl (mW cI cZ cS cC cJ a v_7) H := by rw [ev_7]; exact mW_put hP (by omega) (by rw [ei0, nI_clamp (by omega)]; rfl)
    have hB := hB.put ev_7 (by decide)
    have hL := hL.put ev_7 (by decide)
    refine lv_aload_n hx hb dX6_start_44 rfl (lv_at hl 0 rfl) ?_
    refine va_get (D := (dC, dI)) (ci := 6) (v := .ref (a 57)) (C := RX6) (T := TX6) (N := 43) hx hb hts (fun w h => List.mem_cons_of_mem _ (inWX6 w h)) hown hK hP 45 at_45 rfl 20 (by decide) (hts _ (List.mem_cons_of_mem _ kw_t3_61)) (fun _ h9 => h9) rfl dX6_start_45 ?_
    refine lv_iload_n hx hb dX6_start_48 rfl (lv_at hl 1 rfl) ?_
    refine lv_aload_n hx hb dX6_start_49 rfl (lv_at hl 0 rfl) ?_
    refine va_get (D := (dC, dI)) (ci := 6) (v := .int (v_7 45 4)) (C := RX6) (T := TX6) (N := 43) hx hb hts (fun w h => List.mem_cons_of_mem _ (inWX6 w h)) hown hK hP 45 at_45 rfl 4 (by decide) (hts _ (List.mem_cons_of_mem _ kw_t3_45)) (fun _ h9 => h9) rfl dX6_start_50 ?_
    refine lv_topi (fun t_8 et_8 => ?_)
    have hsc_8 : 0 ≤ t_8.toInt ∧ t_8.toInt ≤ gn := by rw [et_8]; exact hB.2.1
    refine va_iast hx hb hK hP (mD_of hD hAc) hS 57 0 at_57 rfl (kt_inN ei0 (by omega) (by decide)) dX6_start_53 (fun H locs hP _ hS => ?_)
    obtain ⟨v_9, ev_9⟩ : ∃ z, z = mU v_7 57 (upd (v_7 57) i0 t_8) := ⟨_, rfl⟩
    have hP : va_P (dC, dI) vwCl (mW cI cZ cS cC cJ a v_9) H := by rw [ev_9]; exact mW_put hP (by omega) (by rw [ei0, nI_clamp (by omega)]; rfl)
    have hB := hB.put57 ev_9 (by omega)
    have hL := hL.put ev_9 (by decide)
    refine lv_aload_n hx hb dX6_start_54 rfl (lv_at hl 0 rfl) ?_
    refine va_get (D := (dC, dI)) (ci := 6) (v := .int (v_9 45 4)) (C := RX6) (T := TX6) (N := 43) hx hb hts (fun w h => List.mem_cons_of_mem _ (inWX6 w h)) hown hK hP 45 at_45 rfl 4 (by decide) (hts _ (List.mem_cons_of_mem _ kw_t3_45)) (fun _ h9 => h9) rfl dX6_start_55 ?_
    refine lv_topi (fun t_10 et_10 => ?_)
    have hsc_10 : 0 ≤ t_10.toInt ∧ t_10.toInt ≤ gn := by rw [et_10]; exact hB.2.1
    refine lv_sipush (v := 500) hx hb dX6_start_58 (by decide) ?_
    refine lv_icmp_ge (tgt := 122) hx hb dX6_start_61 (by decide) (fun c_11 => ?_) (fun c_11 => ?_)
    · refine lv_aload_n hx hb dX6_start_122 rfl (lv_at hl 0 rfl) ?_
      refine lv_dup hx hb dX6_start_123 rfl ?_
      refine va_get (D := (dC, dI)) (ci := 6) (v := .int (v_9 45 4)) (C := RX6) (T := TX6) (N := 43) hx hb hts (fun w h => List.mem_cons_of_mem _ (inWX6 w h)) hown hK hP 45 at_45 rfl 4 (by decide) (hts _ (List.mem_cons_of_mem _ kw_t3_45)) (fun _ h9 => h9) rfl dX6_start_124 ?_
      refine lv_topi (fun t_12 et_12 => ?_)
      obtain rfl : t_10 = t_12 := et_10.trans et_12.symm
      refine lv_iconst (v := 1) hx hb dX6_start_127 (by decide) ?_
      refine lv_iadd hx hb dX6_start_128 ?_
      refine lv_topi (fun t_13 et_13 => ?_)
      refine va_put (D := (dC, dI)) (ci := 6) (v := .int t_13) (ty := .int) (C := RX6) (T := TX6) (N := 43) hx hb hts (fun w h => List.mem_cons_of_mem _ (inWX6 w h)) tyX6 tyX6_ok nmX6 hown hK hP (mD_of hD hAc) hS 45 at_45 rfl 4 (by decide) (hts _ (List.mem_cons_of_mem _ kw_t3_45)) (fun _ h9 => h9) rfl (by decide +kernel) rfl rfl (Nat.le_of_ble_eq_true rfl) dX6_start_129 (fun H locs hP _ hS => ?_)
      obtain ⟨v_14, ev_14⟩ : ∃ z, z = mU v_9 45 (upd (v_9 45) 4 t_13) := ⟨_, rfl⟩
      have hP : va_P (dC, dI) vwCl (mW cI cZ cS cC cJ a v_14) H := by rw [ev_14]; exact mW_put hP (by omega) rfl
      have hy9 := kt_addI (x := t_10) (by omega) (by omega) et_13
      have hB := hB.putM (m := gn + 1) ev_14 (fun z => absurd z (by decide)) (by rw [if_pos rfl]; exact ⟨by omega, by omega⟩)
      have hL := hL.putM ev_14 (by decide)
      refine lv_aload_n hx hb dX6_start_132 rfl (lv_at hl 0 rfl) ?_
      refine lv_iload_n hx hb dX6_start_133 rfl (lv_at hl 1 rfl) ?_
      refine lv_aload_n hx hb dX6_start_134 rfl (lv_at hl 0 rfl) ?_
      refine va_get (D := (dC, dI)) (ci := 6) (v := .ref (a 46)) (C := RX6) (T := TX6) (N := 43) hx hb hts (fun w h => List.mem_cons_of_mem _ (inWX6 w h)) hown hK hP 45 at_45 rfl 9 (by decide) (hts _ (List.mem_cons_of_mem _ kw_t3_50)) (fun _ h9 => h9) rfl dX6_start_135 ?_
      refine lv_iload_n hx hb dX6_start_138 rfl (lv_at hl 1 rfl) ?_
      refine va_iald hx hb hK hP 46 0 at_46 rfl (kt_inN ei0 (by omega) (by decide)) dX6_start_139 ?_
      refine lv_topi (fun t_15 et_15 => ?_)
      rw [ei0, nI_clamp (by omega)] at et_15
      refine lv_if_ne (tgt := 147) hx hb dX6_start_140 (by decide) (fun c_16 => ?_) (fun c_16 => ?_)
      · refine lv_iconst (v := 5) hx hb dX6_start_147 (by decide) ?_
        have hFc := mA_free (a := a) hS hA hAc
        refine va_callv (va_runV (As := [.int p0, .int 5]) (rest := []) ⟨hx, hb, hml, hown, hts⟩ (c_X6_begins l dC dI cI cZ cS cC cJ a v_14 H.size p0 5 hD (gn + 1) (by omega) hB.self i0 (by omega) ei0 0 (rL.zero hL (rL.at0 hL hi0 (by rw [show v_14 52 = v 52 from (by rw [ev_14, mU_ne _ _ (by first | decide | omega), ev_9, mU_ne _ _ (by first | decide | omega), ev_7, mU_ne _ _ (by first | decide | omega), ev_5, mU_ne _ _ (by first | decide | omega), ev_3, mU_ne _ _ (by first | decide | omega)])]; exact h0))) (Or.inl ⟨rfl, by decide⟩)) (cwV 2 hts (gV (fun w h => List.mem_cons_of_mem _ h) kw_t3_236 kw_t3_238 kw_s0_19 kw_t1_7 kw_t3_239) rfl rfl rfl (by decide +kernel) ⟨Nat.le_of_ble_eq_true rfl, Nat.le_of_ble_eq_true rfl⟩) ⟨fun av U g mk q => by obtain ⟨q0, q1, qP, qK, qN⟩ := q; exact ⟨q0, q1, qP, va_K.moved (u := U) (U := U.calling g mk av) (Vm.Alike.refl U.vm) qK, mN_same qN⟩, va_recv hK hP (ci := 6) (q0 := 45) rfl at_45, fun U hU hW => ⟨rfl, by rw [hU], by rw [hU]; exact hP, va_K.moved hW.alike hK, mN_warm hW hN⟩⟩ rfl rfl hl.1 rfl (lv_room (Nat.le_of_ble_eq_true rfl)) dX6_start_148 ⟨Nat.le_of_ble_eq_true rfl, Nat.le_of_ble_eq_true rfl⟩) hS (fun q _ h => hFc q h) hFc (fun v_17 t H locs ht hvm hw_17 hP _ _ hS => ?_)
        have hP := kt_heap2 ht hP
        clear ht hFc
        have hP : va_P (dC, dI) vwCl (mW cI cZ cS cC cJ a v_17) H := hP
        have hB := hB.trans hw_17.1
        have hL := hw_17.2.1
        exact W.vret hx hb hr (fun t ht hW => ⟨⟨v_17, rfl, ⟨hB, hL⟩, kt_heap ht hP⟩, hS.F ht⟩) hS.2.2 dX6_start_151
      · refine lv_iconst (v := 1) hx hb dX6_start_143 (by decide) ?_
        refine lv_goto (tgt := 148) hx hb dX6_start_144 (by decide) ?_
        have hFc := mA_free (a := a) hS hA hAc
        refine va_callv (va_runV (As := [.int p0, .int 1]) (rest := []) ⟨hx, hb, hml, hown, hts⟩ (c_X6_begins l dC dI cI cZ cS cC cJ a v_14 H.size p0 1 hD (gn + 1) (by omega) hB.self i0 (by omega) ei0 0 (rL.zero hL (rL.at0 hL hi0 (by rw [show v_14 52 = v 52 from (by rw [ev_14, mU_ne _ _ (by first | decide | omega), ev_9, mU_ne _ _ (by first | decide | omega), ev_7, mU_ne _ _ (by first | decide | omega), ev_5, mU_ne _ _ (by first | decide | omega), ev_3, mU_ne _ _ (by first | decide | omega)])]; exact h0))) (Or.inl ⟨rfl, by decide⟩)) (cwV 2 hts (gV (fun w h => List.mem_cons_of_mem _ h) kw_t3_236 kw_t3_238 kw_s0_19 kw_t1_7 kw_t3_239) rfl rfl rfl (by decide +kernel) ⟨Nat.le_of_ble_eq_true rfl, Nat.le_of_ble_eq_true rfl⟩) ⟨fun av U g mk q => by obtain ⟨q0, q1, qP, qK, qN⟩ := q; exact ⟨q0, q1, qP, va_K.moved (u := U) (U := U.calling g mk av) (Vm.Alike.refl U.vm) qK, mN_same qN⟩, va_recv hK hP (ci := 6) (q0 := 45) rfl at_45, fun U hU hW => ⟨rfl, by rw [hU], by rw [hU]; exact hP, va_K.moved hW.alike hK, mN_warm hW hN⟩⟩ rfl rfl hl.1 rfl (lv_room (Nat.le_of_ble_eq_true rfl)) dX6_start_148 ⟨Nat.le_of_ble_eq_true rfl, Nat.le_of_ble_eq_true rfl⟩) hS (fun q _ h => hFc q h) hFc (fun v_18 t H locs ht hvm hw_18 hP _ _ hS => ?_)
        have hP := kt_heap2 ht hP
        clear ht hFc
        have hP : va_P (dC, dI) vwCl (mW cI cZ cS cC cJ a v_18) H := hP
        have hB := hB.trans hw_18.1
        have hL := hw_18.2.1
        exact W.vret hx hb hr (fun t ht hW => ⟨⟨v_18, rfl, ⟨hB, hL⟩, kt_heap ht hP⟩, hS.F ht⟩) hS.2.2 dX6_start_151
    · refine lv_aload_n hx hb dX6_start_64 rfl (lv_at hl 0 rfl) ?_
      refine va_get (D := (dC, dI)) (ci := 6) (v := .ref (a 73)) (C := RX6) (T := TX6) (N := 43) hx hb hts (fun w h => List.mem_cons_of_mem _ (inWX6 w h)) hown hK hP 45 at_45 rfl 36 (by decide) (hts _ (List.mem_cons_of_mem _ kw_t3_77)) (fun _ h9 => h9) rfl dX6_start_65 ?_
      refine lv_aload_n hx hb dX6_start_68 rfl (lv_at hl 0 rfl) ?_
      refine va_get (D := (dC, dI)) (ci := 6) (v := .int (v_9 45 4)) (C := RX6) (T := TX6) (N := 43) hx hb hts (fun w h => List.mem_cons_of_mem _ (inWX6 w h)) hown hK hP 45 at_45 rfl 4 (by decide) (hts _ (List.mem_cons_of_mem _ kw_t3_45)) (fun _ h9 => h9) rfl dX6_start_69 ?_
      refine lv_topi (fun t_19 et_19 => ?_)
      obtain rfl : t_10 = t_19 := et_10.trans et_19.symm
      refine lv_iload_n hx hb dX6_start_72 rfl (lv_at hl 1 rfl) ?_
      obtain ⟨ix_21, hx_21, ex_21⟩ := kt_idx (x := t_10) (n := 500) (by have z0 := c_6; have z1 := hsc_8; have z2 := hsc_10; have z3 := c_11; (try simp only [Int32.lt_iff_toInt_lt, Int32.le_iff_toInt_le, ← Int32.toInt_inj, L0, L1, L2, L3, L4, L6, L9, L500, L5, L7, L10, L12, L15, L16, L20, L63, L1000, L1023, L2000, L10000, L100000, Lm1] at z0 z1 z2 z3); omega) (by have z0 := c_6; have z1 := hsc_8; have z2 := hsc_10; have z3 := c_11; (try simp only [Int32.lt_iff_toInt_lt, Int32.le_iff_toInt_le, ← Int32.toInt_inj, L0, L1, L2, L3, L4, L6, L9, L500, L5, L7, L10, L12, L15, L16, L20, L63, L1000, L1023, L2000, L10000, L100000, Lm1] at z0 z1 z2 z3); omega)
      refine va_iast hx hb hK hP (mD_of hD hAc) hS 73 0 at_73 rfl (kt_inN ex_21 (by omega) (by decide)) dX6_start_73 (fun H locs hP _ hS => ?_)
      obtain ⟨v_22, ev_22⟩ : ∃ z, z = mU v_9 73 (upd (v_9 73) ix_21 p0) := ⟨_, rfl⟩
      have hP : va_P (dC, dI) vwCl (mW cI cZ cS cC cJ a v_22) H := by rw [ev_22]; exact mW_put hP (by omega) (by rw [ex_21, nI_clamp (by omega)]; rfl)
      have hB := hB.put ev_22 (by decide)
      have hL := hL.put ev_22 (by decide)
      refine lv_aload_n hx hb dX6_start_74 rfl (lv_at hl 0 rfl) ?_
      refine va_get (D := (dC, dI)) (ci := 6) (v := .ref (a 74)) (C := RX6) (T := TX6) (N := 43) hx hb hts (fun w h => List.mem_cons_of_mem _ (inWX6 w h)) hown hK hP 45 at_45 rfl 37 (by decide) (hts _ (List.mem_cons_of_mem _ kw_t3_78)) (fun _ h9 => h9) rfl dX6_start_75 ?_
      refine lv_aload_n hx hb dX6_start_78 rfl (lv_at hl 0 rfl) ?_
      refine va_get (D := (dC, dI)) (ci := 6) (v := .int (v_22 45 4)) (C := RX6) (T := TX6) (N := 43) hx hb hts (fun w h => List.mem_cons_of_mem _ (inWX6 w h)) hown hK hP 45 at_45 rfl 4 (by decide) (hts _ (List.mem_cons_of_mem _ kw_t3_45)) (fun _ h9 => h9) rfl dX6_start_79 ?_
      refine lv_topi (fun t_23 et_23 => ?_)
      have hsc_23 : 0 ≤ t_23.toInt ∧ t_23.toInt ≤ gn := by rw [et_23]; exact hB.2.1
      refine lv_aload_n hx hb dX6_start_82 rfl (lv_at hl 0 rfl) ?_
      refine va_get (D := (dC, dI)) (ci := 6) (v := .ref (a 50)) (C := RX6) (T := TX6) (N := 43) hx hb hts (fun w h => List.mem_cons_of_mem _ (inWX6 w h)) hown hK hP 45 at_45 rfl 13 (by decide) (hts _ (List.mem_cons_of_mem _ kw_t3_54)) (fun _ h9 => h9) rfl dX6_start_83 ?_
      refine lv_iload_n hx hb dX6_start_86 rfl (lv_at hl 1 rfl) ?_
      refine va_iald hx hb hK hP 50 0 at_50 rfl (kt_inN ei0 (by omega) (by decide)) dX6_start_87 ?_
      refine lv_topi (fun t_24 et_24 => ?_)
      rw [ei0, nI_clamp (by omega)] at et_24
      obtain ⟨ix_26, hx_26, ex_26⟩ := kt_idx (x := t_23) (n := 500) (by have z0 := c_6; have z1 := hsc_8; have z2 := hsc_10; have z3 := c_11; have z4 := hsc_23; (try simp only [Int32.lt_iff_toInt_lt, Int32.le_iff_toInt_le, ← Int32.toInt_inj, L0, L1, L2, L3, L4, L6, L9, L500, L5, L7, L10, L12, L15, L16, L20, L63, L1000, L1023, L2000, L10000, L100000, Lm1] at z0 z1 z2 z3 z4); omega) (by have z0 := c_6; have z1 := hsc_8; have z2 := hsc_10; have z3 := c_11; have z4 := hsc_23; (try simp only [Int32.lt_iff_toInt_lt, Int32.le_iff_toInt_le, ← Int32.toInt_inj, L0, L1, L2, L3, L4, L6, L9, L500, L5, L7, L10, L12, L15, L16, L20, L63, L1000, L1023, L2000, L10000, L100000, Lm1] at z0 z1 z2 z3 z4); omega)
      refine va_iast hx hb hK hP (mD_of hD hAc) hS 74 0 at_74 rfl (kt_inN ex_26 (by omega) (by decide)) dX6_start_88 (fun H locs hP _ hS => ?_)
      obtain ⟨v_27, ev_27⟩ : ∃ z, z = mU v_22 74 (upd (v_22 74) ix_26 t_24) := ⟨_, rfl⟩
      have hP : va_P (dC, dI) vwCl (mW cI cZ cS cC cJ a v_27) H := by rw [ev_27]; exact mW_put hP (by omega) (by rw [ex_26, nI_clamp (by omega)]; rfl)
      have hB := hB.put ev_27 (by decide)
      have hL := hL.put ev_27 (by decide)
      refine lv_aload_n hx hb dX6_start_89 rfl (lv_at hl 0 rfl) ?_
      refine va_get (D := (dC, dI)) (ci := 6) (v := .ref (a 75)) (C := RX6) (T := TX6) (N := 43) hx hb hts (fun w h => List.mem_cons_of_mem _ (inWX6 w h)) hown hK hP 45 at_45 rfl 38 (by decide) (hts _ (List.mem_cons_of_mem _ kw_t3_79)) (fun _ h9 => h9) rfl dX6_start_90 ?_
      refine lv_aload_n hx hb dX6_start_93 rfl (lv_at hl 0 rfl) ?_
      refine va_get (D := (dC, dI)) (ci := 6) (v := .int (v_27 45 4)) (C := RX6) (T := TX6) (N := 43) hx hb hts (fun w h => List.mem_cons_of_mem _ (inWX6 w h)) hown hK hP 45 at_45 rfl 4 (by decide) (hts _ (List.mem_cons_of_mem _ kw_t3_45)) (fun _ h9 => h9) rfl dX6_start_94 ?_
      refine lv_topi (fun t_28 et_28 => ?_)
      have hsc_28 : 0 ≤ t_28.toInt ∧ t_28.toInt ≤ gn := by rw [et_28]; exact hB.2.1
      refine lv_aload_n hx hb dX6_start_97 rfl (lv_at hl 0 rfl) ?_
      refine va_get (D := (dC, dI)) (ci := 6) (v := .int (v_27 45 1)) (C := RX6) (T := TX6) (N := 43) hx hb hts (fun w h => List.mem_cons_of_mem _ (inWX6 w h)) hown hK hP 45 at_45 rfl 1 (by decide) (hts _ (List.mem_cons_of_mem _ kw_t3_42)) (fun _ h9 => h9) rfl dX6_start_98 ?_
      refine lv_topi (fun t_29 et_29 => ?_)
      obtain ⟨ix_31, hx_31, ex_31⟩ := kt_idx (x := t_28) (n := 500) (by have z0 := c_6; have z1 := hsc_8; have z2 := hsc_10; have z3 := c_11; have z4 := hsc_23; have z5 := hsc_28; (try simp only [Int32.lt_iff_toInt_lt, Int32.le_iff_toInt_le, ← Int32.toInt_inj, L0, L1, L2, L3, L4, L6, L9, L500, L5, L7, L10, L12, L15, L16, L20, L63, L1000, L1023, L2000, L10000, L100000, Lm1] at z0 z1 z2 z3 z4 z5); omega) (by have z0 := c_6; have z1 := hsc_8; have z2 := hsc_10; have z3 := c_11; have z4 := hsc_23; have z5 := hsc_28; (try simp only [Int32.lt_iff_toInt_lt, Int32.le_iff_toInt_le, ← Int32.toInt_inj, L0, L1, L2, L3, L4, L6, L9, L500, L5, L7, L10, L12, L15, L16, L20, L63, L1000, L1023, L2000, L10000, L100000, Lm1] at z0 z1 z2 z3 z4 z5); omega)
      refine va_iast hx hb hK hP (mD_of hD hAc) hS 75 0 at_75 rfl (kt_inN ex_31 (by omega) (by decide)) dX6_start_101 (fun H locs hP _ hS => ?_)
      obtain ⟨v_32, ev_32⟩ : ∃ z, z = mU v_27 75 (upd (v_27 75) ix_31 t_29) := ⟨_, rfl⟩
      have hP : va_P (dC, dI) vwCl (mW cI cZ cS cC cJ a v_32) H := by rw [ev_32]; exact mW_put hP (by omega) (by rw [ex_31, nI_clamp (by omega)]; rfl)
      have hB := hB.put ev_32 (by decide)
      have hL := hL.put ev_32 (by decide)
      refine lv_aload_n hx hb dX6_start_102 rfl (lv_at hl 0 rfl) ?_
      refine va_get (D := (dC, dI)) (ci := 6) (v := .ref (a 76)) (C := RX6) (T := TX6) (N := 43) hx hb hts (fun w h => List.mem_cons_of_mem _ (inWX6 w h)) hown hK hP 45 at_45 rfl 39 (by decide) (hts _ (List.mem_cons_of_mem _ kw_t3_80)) (fun _ h9 => h9) rfl dX6_start_103 ?_
      refine lv_aload_n hx hb dX6_start_106 rfl (lv_at hl 0 rfl) ?_
      refine va_get (D := (dC, dI)) (ci := 6) (v := .int (v_32 45 4)) (C := RX6) (T := TX6) (N := 43) hx hb hts (fun w h => List.mem_cons_of_mem _ (inWX6 w h)) hown hK hP 45 at_45 rfl 4 (by decide) (hts _ (List.mem_cons_of_mem _ kw_t3_45)) (fun _ h9 => h9) rfl dX6_start_107 ?_
      refine lv_topi (fun t_33 et_33 => ?_)
      have hsc_33 : 0 ≤ t_33.toInt ∧ t_33.toInt ≤ gn := by rw [et_33]; exact hB.2.1
      refine lv_iconst (v := (-1)) hx hb dX6_start_110 (by decide) ?_
      obtain ⟨ix_35, hx_35, ex_35⟩ := kt_idx (x := t_33) (n := 500) (by have z0 := c_6; have z1 := hsc_8; have z2 := hsc_10; have z3 := c_11; have z4 := hsc_23; have z5 := hsc_28; have z6 := hsc_33; (try simp only [Int32.lt_iff_toInt_lt, Int32.le_iff_toInt_le, ← Int32.toInt_inj, L0, L1, L2, L3, L4, L6, L9, L500, L5, L7, L10, L12, L15, L16, L20, L63, L1000, L1023, L2000, L10000, L100000, Lm1] at z0 z1 z2 z3 z4 z5 z6); omega) (by have z0 := c_6; have z1 := hsc_8; have z2 := hsc_10; have z3 := c_11; have z4 := hsc_23; have z5 := hsc_28; have z6 := hsc_33; (try simp only [Int32.lt_iff_toInt_lt, Int32.le_iff_toInt_le, ← Int32.toInt_inj, L0, L1, L2, L3, L4, L6, L9, L500, L5, L7, L10, L12, L15, L16, L20, L63, L1000, L1023, L2000, L10000, L100000, Lm1] at z0 z1 z2 z3 z4 z5 z6); omega)
      refine va_iast hx hb hK hP (mD_of hD hAc) hS 76 0 at_76 rfl (kt_inN ex_35 (by omega) (by decide)) dX6_start_111 (fun H locs hP _ hS => ?_)
      obtain ⟨v_36, ev_36⟩ : ∃ z, z = mU v_32 76 (upd (v_32 76) ix_35 (-1)) := ⟨_, rfl⟩
      have hP : va_P (dC, dI) vwCl (mW cI cZ cS cC cJ a v_36) H := by rw [ev_36]; exact mW_put hP (by omega) (by rw [ex_35, nI_clamp (by omega)]; rfl)
      have hB := hB.put ev_36 (by decide)
      have hL := hL.put ev_36 (by decide)
      refine lv_aload_n hx hb dX6_start_112 rfl (lv_at hl 0 rfl) ?_
      refine va_get (D := (dC, dI)) (ci := 6) (v := .ref (a 77)) (C := RX6) (T := TX6) (N := 43) hx hb hts (fun w h => List.mem_cons_of_mem _ (inWX6 w h)) hown hK hP 45 at_45 rfl 40 (by decide) (hts _ (List.mem_cons_of_mem _ kw_t3_81)) (fun _ h9 => h9) rfl dX6_start_113 ?_
      refine lv_aload_n hx hb dX6_start_116 rfl (lv_at hl 0 rfl) ?_
      refine va_get (D := (dC, dI)) (ci := 6) (v := .int (v_36 45 4)) (C := RX6) (T := TX6) (N := 43) hx hb hts (fun w h => List.mem_cons_of_mem _ (inWX6 w h)) hown hK hP 45 at_45 rfl 4 (by decide) (hts _ (List.mem_cons_of_mem _ kw_t3_45)) (fun _ h9 => h9) rfl dX6_start_117 ?_
      refine lv_topi (fun t_37 et_37 => ?_)
      have hsc_37 : 0 ≤ t_37.toInt ∧ t_37.toInt ≤ gn := by rw [et_37]; exact hB.2.1
      refine lv_iload_n hx hb dX6_start_120 rfl (lv_at hl 2 rfl) ?_
      obtain ⟨ix_39, hx_39, ex_39⟩ := kt_idx (x := t_37) (n := 500) (by have z0 := c_6; have z1 := hsc_8; have z2 := hsc_10; have z3 := c_11; have z4 := hsc_23; have z5 := hsc_28; have z6 := hsc_33; have z7 := hsc_37; (try simp only [Int32.lt_iff_toInt_lt, Int32.le_iff_toInt_le, ← Int32.toInt_inj, L0, L1, L2, L3, L4, L6, L9, L500, L5, L7, L10, L12, L15, L16, L20, L63, L1000, L1023, L2000, L10000, L100000, Lm1] at z0 z1 z2 z3 z4 z5 z6 z7); omega) (by have z0 := c_6; have z1 := hsc_8; have z2 := hsc_10; have z3 := c_11; have z4 := hsc_23; have z5 := hsc_28; have z6 := hsc_33; have z7 := hsc_37; (try simp only [Int32.lt_iff_toInt_lt, Int32.le_iff_toInt_le, ← Int32.toInt_inj, L0, L1, L2, L3, L4, L6, L9, L500, L5, L7, L10, L12, L15, L16, L20, L63, L1000, L1023, L2000, L10000, L100000, Lm1] at z0 z1 z2 z3 z4 z5 z6 z7); omega)
      refine va_zast hx hb hK hP (mD_of hD hAc) hS 77 1 at_77 rfl (kt_inN ex_39 (by omega) (by decide)) dX6_start_121 (fun H locs hP _ hS => ?_)
      obtain ⟨v_40, ev_40⟩ : ∃ z, z = mU v_36 77 (upd (v_36 77) ix_39 (vp_nar .boolean p1)) := ⟨_, rfl⟩
      have hP : va_P (dC, dI) vwCl (mW cI cZ cS cC cJ a v_40) H := by rw [ev_40]; exact mW_put hP (by omega) (by rw [ex_39, nI_clamp (by omega)]; rfl)
      have hB := hB.put ev_40 (by decide)
      have hL := hL.put ev_40 (by decide)
      refine lv_aload_n hx hb dX6_start_122 rfl (lv_at hl 0 rfl) ?_
      refine lv_dup hx hb dX6_start_123 rfl ?_
      refine va_get (D := (dC, dI)) (ci := 6) (v := .int (v_40 45 4)) (C := RX6) (T := TX6) (N := 43) hx hb hts (fun w h => List.mem_cons_of_mem _ (inWX6 w h)) hown hK hP 45 at_45 rfl 4 (by decide) (hts _ (List.mem_cons_of_mem _ kw_t3_45)) (fun _ h9 => h9) rfl dX6_start_124 ?_
      refine lv_topi (fun t_41 et_41 => ?_)
      have hsc_41 : 0 ≤ t_41.toInt ∧ t_41.toInt ≤ gn := by rw [et_41]; exact hB.2.1
      refine lv_iconst (v := 1) hx hb dX6_start_127 (by decide) ?_
      refine lv_iadd hx hb dX6_start_128 ?_
      refine lv_topi (fun t_42 et_42 => ?_)
      refine va_put (D := (dC, dI)) (ci := 6) (v := .int t_42) (ty := .int) (C := RX6) (T := TX6) (N := 43) hx hb hts (fun w h => List.mem_cons_of_mem _ (inWX6 w h)) tyX6 tyX6_ok nmX6 hown hK hP (mD_of hD hAc) hS 45 at_45 rfl 4 (by decide) (hts _ (List.mem_cons_of_mem _ kw_t3_45)) (fun _ h9 => h9) rfl (by decide +kernel) rfl rfl (Nat.le_of_ble_eq_true rfl) dX6_start_129 (fun H locs hP _ hS => ?_)
      obtain ⟨v_43, ev_43⟩ : ∃ z, z = mU v_40 45 (upd (v_40 45) 4 t_42) := ⟨_, rfl⟩
      have hP : va_P (dC, dI) vwCl (mW cI cZ cS cC cJ a v_43) H := by rw [ev_43]; exact mW_put hP (by omega) rfl
      have hy9 := kt_addI (x := t_41) (by omega) (by omega) et_42
      have hB := hB.putM (m := gn + 1) ev_43 (fun z => absurd z (by decide)) (by rw [if_pos rfl]; exact ⟨by omega, by omega⟩)
      have hL := hL.putM ev_43 (by decide)
      refine lv_aload_n hx hb dX6_start_132 rfl (lv_at hl 0 rfl) ?_
      refine lv_iload_n hx hb dX6_start_133 rfl (lv_at hl 1 rfl) ?_
      refine lv_aload_n hx hb dX6_start_134 rfl (lv_at hl 0 rfl) ?_
      refine va_get (D := (dC, dI)) (ci := 6) (v := .ref (a 46)) (C := RX6) (T := TX6) (N := 43) hx hb hts (fun w h => List.mem_cons_of_mem _ (inWX6 w h)) hown hK hP 45 at_45 rfl 9 (by decide) (hts _ (List.mem_cons_of_mem _ kw_t3_50)) (fun _ h9 => h9) rfl dX6_start_135 ?_
      refine lv_iload_n hx hb dX6_start_138 rfl (lv_at hl 1 rfl) ?_
      refine va_iald hx hb hK hP 46 0 at_46 rfl (kt_inN ei0 (by omega) (by decide)) dX6_start_139 ?_
      refine lv_topi (fun t_44 et_44 => ?_)
      rw [ei0, nI_clamp (by omega)] at et_44
      refine lv_if_ne (tgt := 147) hx hb dX6_start_140 (by decide) (fun c_45 => ?_) (fun c_45 => ?_)
      · refine lv_iconst (v := 5) hx hb dX6_start_147 (by decide) ?_
        have hFc := mA_free (a := a) hS hA hAc
        refine va_callv (va_runV (As := [.int p0, .int 5]) (rest := []) ⟨hx, hb, hml, hown, hts⟩ (c_X6_begins l dC dI cI cZ cS cC cJ a v_43 H.size p0 5 hD (gn + 1) (by omega) hB.self i0 (by omega) ei0 0 (rL.zero hL (rL.at0 hL hi0 (by rw [show v_43 52 = v 52 from (by rw [ev_43, mU_ne _ _ (by first | decide | omega), ev_40, mU_ne _ _ (by first | decide | omega), ev_36, mU_ne _ _ (by first | decide | omega), ev_32, mU_ne _ _ (by first | decide | omega), ev_27, mU_ne _ _ (by first | decide | omega), ev_22, mU_ne _ _ (by first | decide | omega), ev_9, mU_ne _ _ (by first | decide | omega), ev_7, mU_ne _ _ (by first | decide | omega), ev_5, mU_ne _ _ (by first | decide | omega), ev_3, mU_ne _ _ (by first | decide | omega)])]; exact h0))) (Or.inl ⟨rfl, by decide⟩)) (cwV 2 hts (gV (fun w h => List.mem_cons_of_mem _ h) kw_t3_236 kw_t3_238 kw_s0_19 kw_t1_7 kw_t3_239) rfl rfl rfl (by decide +kernel) ⟨Nat.le_of_ble_eq_true rfl, Nat.le_of_ble_eq_true rfl⟩) ⟨fun av U g mk q => by obtain ⟨q0, q1, qP, qK, qN⟩ := q; exact ⟨q0, q1, qP, va_K.moved (u := U) (U := U.calling g mk av) (Vm.Alike.refl U.vm) qK, mN_same qN⟩, va_recv hK hP (ci := 6) (q0 := 45) rfl at_45, fun U hU hW => ⟨rfl, by rw [hU], by rw [hU]; exact hP, va_K.moved hW.alike hK, mN_warm hW hN⟩⟩ rfl rfl hl.1 rfl (lv_room (Nat.le_of_ble_eq_true rfl)) dX6_start_148 ⟨Nat.le_of_ble_eq_true rfl, Nat.le_of_ble_eq_true rfl⟩) hS (fun q _ h => hFc q h) hFc (fun v_46 t H locs ht hvm hw_46 hP _ _ hS => ?_)
        have hP := kt_heap2 ht hP
        clear ht hFc
        have hP : va_P (dC, dI) vwCl (mW cI cZ cS cC cJ a v_46) H := hP
        have hB := hB.trans hw_46.1
        have hL := hw_46.2.1
        exact W.vret hx hb hr (fun t ht hW => ⟨⟨v_46, rfl, ⟨hB, hL⟩, kt_heap ht hP⟩, hS.F ht⟩) hS.2.2 dX6_start_151
      · refine lv_iconst (v := 1) hx hb dX6_start_143 (by decide) ?_
        refine lv_goto (tgt := 148) hx hb dX6_start_144 (by decide) ?_
        have hFc := mA_free (a := a) hS hA hAc
        refine va_callv (va_runV (As := [.int p0, .int 1]) (rest := []) ⟨hx, hb, hml, hown, hts⟩ (c_X6_begins l dC dI cI cZ cS cC cJ a v_43 H.size p0 1 hD (gn + 1) (by omega) hB.self i0 (by omega) ei0 0 (rL.zero hL (rL.at0 hL hi0 (by rw [show v_43 52 = v 52 from (by rw [ev_43, mU_ne _ _ (by first | decide | omega), ev_40, mU_ne _ _ (by first | decide | omega), ev_36, mU_ne _ _ (by first | decide | omega), ev_32, mU_ne _ _ (by first | decide | omega), ev_27, mU_ne _ _ (by first | decide | omega), ev_22, mU_ne _ _ (by first | decide | omega), ev_9, mU_ne _ _ (by first | decide | omega), ev_7, mU_ne _ _ (by first | decide | omega), ev_5, mU_ne _ _ (by first | decide | omega), ev_3, mU_ne _ _ (by first | decide | omega)])]; exact h0))) (Or.inl ⟨rfl, by decide⟩)) (cwV 2 hts (gV (fun w h => List.mem_cons_of_mem _ h) kw_t3_236 kw_t3_238 kw_s0_19 kw_t1_7 kw_t3_239) rfl rfl rfl (by decide +kernel) ⟨Nat.le_of_ble_eq_true rfl, Nat.le_of_ble_eq_true rfl⟩) ⟨fun av U g mk q => by obtain ⟨q0, q1, qP, qK, qN⟩ := q; exact ⟨q0, q1, qP, va_K.moved (u := U) (U := U.calling g mk av) (Vm.Alike.refl U.vm) qK, mN_same qN⟩, va_recv hK hP (ci := 6) (q0 := 45) rfl at_45, fun U hU hW => ⟨rfl, by rw [hU], by rw [hU]; exact hP, va_K.moved hW.alike hK, mN_warm hW hN⟩⟩ rfl rfl hl.1 rfl (lv_room (Nat.le_of_ble_eq_true rfl)) dX6_start_148 ⟨Nat.le_of_ble_eq_true rfl, Nat.le_of_ble_eq_true rfl⟩) hS (fun q _ h => hFc q h) hFc (fun v_47 t H locs ht hvm hw_47 hP _ _ hS => ?_)
        have hP := kt_heap2 ht hP
        clear ht hFc
        have hP : va_P (dC, dI) vwCl (mW cI cZ cS cC cJ a v_47) H := hP
        have hB := hB.trans hw_47.1
        have hL := hw_47.2.1
        exact W.vret hx hb hr (fun t ht hW => ⟨⟨v_47, rfl, ⟨hB, hL⟩, kt_heap ht hP⟩, hS.F ht⟩) hS.2.2 dX6_start_151
  · refine lv_aload_n hx hb dX6_start_29 rfl (lv_at hl 0 rfl) ?_
    refine va_get (D := (dC, dI)) (ci := 6) (v := .ref (a 46)) (C := RX6) (T := TX6) (N := 43) hx hb hts (fun w h => List.mem_cons_of_mem _ (inWX6 w h)) hown hK hP 45 at_45 rfl 9 (by decide) (hts _ (List.mem_cons_of_mem _ kw_t3_50)) (fun _ h9 => h9) rfl dX6_start_30 ?_
    refine lv_iload_n hx hb dX6_start_33 rfl (lv_at hl 1 rfl) ?_
    refine va_iald hx hb hK hP 46 0 at_46 rfl (kt_inN ei0 (by omega) (by decide)) dX6_start_34 ?_
    refine lv_topi (fun t_48 et_48 => ?_)
    rw [ei0, nI_clamp (by omega)] at et_48
    refine lv_if_ne (tgt := 42) hx hb dX6_start_35 (by decide) (fun c_49 => ?_) (fun c_49 => ?_)
    · refine lv_iconst (v := 0) hx hb dX6_start_42 (by decide) ?_
      refine va_zast hx hb hK hP (mD_of hD hAc) hS 58 1 at_58 rfl (kt_inN ei0 (by omega) (by decide)) dX6_start_43 (fun H locs hP _ hS => ?_)
      obtain ⟨v_50, ev_50⟩ : ∃ z, z = mU v_5 58 (upd (v_5 58) i0 (vp_nar .boolean 0)) := ⟨_, rfl⟩
      have hP : va_P (dC, dI) vwCl (mW cI cZ cS cC cJ a v_50) H := by rw [ev_50]; exact mW_put hP (by omega) (by rw [ei0, nI_clamp (by omega)]; rfl)
      have hB := hB.put ev_50 (by decide)
      have hL := hL.put ev_50 (by decide)
      refine lv_aload_n hx hb dX6_start_44 rfl (lv_at hl 0 rfl) ?_
      refine va_get (D := (dC, dI)) (ci := 6) (v := .ref (a 57)) (C := RX6) (T := TX6) (N := 43) hx hb hts (fun w h => List.mem_cons_of_mem _ (inWX6 w h)) hown hK hP 45 at_45 rfl 20 (by decide) (hts _ (List.mem_cons_of_mem _ kw_t3_61)) (fun _ h9 => h9) rfl dX6_start_45 ?_
      refine lv_iload_n hx hb dX6_start_48 rfl (lv_at hl 1 rfl) ?_
      refine lv_aload_n hx hb dX6_start_49 rfl (lv_at hl 0 rfl) ?_
      refine va_get (D := (dC, dI)) (ci := 6) (v := .int (v_50 45 4)) (C := RX6) (T := TX6) (N := 43) hx hb hts (fun w h => List.mem_cons_of_mem _ (inWX6 w h)) hown hK hP 45 at_45 rfl 4 (by decide) (hts _ (List.mem_cons_of_mem _ kw_t3_45)) (fun _ h9 => h9) rfl dX6_start_50 ?_
      refine lv_topi (fun t_51 et_51 => ?_)
      have hsc_51 : 0 ≤ t_51.toInt ∧ t_51.toInt ≤ gn := by rw [et_51]; exact hB.2.1
      refine va_iast hx hb hK hP (mD_of hD hAc) hS 57 0 at_57 rfl (kt_inN ei0 (by omega) (by decide)) dX6_start_53 (fun H locs hP _ hS => ?_)
      obtain ⟨v_52, ev_52⟩ : ∃ z, z = mU v_50 57 (upd (v_50 57) i0 t_51) := ⟨_, rfl⟩
      have hP : va_P (dC, dI) vwCl (mW cI cZ cS cC cJ a v_52) H := by rw [ev_52]; exact mW_put hP (by omega) (by rw [ei0, nI_clamp (by omega)]; rfl)
      have hB := hB.put57 ev_52 (by omega)
      have hL := hL.put ev_52 (by decide)
      refine lv_aload_n hx hb dX6_start_54 rfl (lv_at hl 0 rfl) ?_
      refine va_get (D := (dC, dI)) (ci := 6) (v := .int (v_52 45 4)) (C := RX6) (T := TX6) (N := 43) hx hb hts (fun w h => List.mem_cons_of_mem _ (inWX6 w h)) hown hK hP 45 at_45 rfl 4 (by decide) (hts _ (List.mem_cons_of_mem _ kw_t3_45)) (fun _ h9 => h9) rfl dX6_start_55 ?_
      refine lv_topi (fun t_53 et_53 => ?_)
      have hsc_53 : 0 ≤ t_53.toInt ∧ t_53.toInt ≤ gn := by rw [et_53]; exact hB.2.1
      refine lv_sipush (v := 500) hx hb dX6_start_58 (by decide) ?_
      refine lv_icmp_ge (tgt := 122) hx hb dX6_start_61 (by decide) (fun c_54 => ?_) (fun c_54 => ?_)
      · refine lv_aload_n hx hb dX6_start_122 rfl (lv_at hl 0 rfl) ?_
        refine lv_dup hx hb dX6_start_123 rfl ?_
        refine va_get (D := (dC, dI)) (ci := 6) (v := .int (v_52 45 4)) (C := RX6) (T := TX6) (N := 43) hx hb hts (fun w h => List.mem_cons_of_mem _ (inWX6 w h)) hown hK hP 45 at_45 rfl 4 (by decide) (hts _ (List.mem_cons_of_mem _ kw_t3_45)) (fun _ h9 => h9) rfl dX6_start_124 ?_
        refine lv_topi (fun t_55 et_55 => ?_)
        obtain rfl : t_53 = t_55 := et_53.trans et_55.symm
        refine lv_iconst (v := 1) hx hb dX6_start_127 (by decide) ?_
        refine lv_iadd hx hb dX6_start_128 ?_
        refine lv_topi (fun t_56 et_56 => ?_)
        refine va_put (D := (dC, dI)) (ci := 6) (v := .int t_56) (ty := .int) (C := RX6) (T := TX6) (N := 43) hx hb hts (fun w h => List.mem_cons_of_mem _ (inWX6 w h)) tyX6 tyX6_ok nmX6 hown hK hP (mD_of hD hAc) hS 45 at_45 rfl 4 (by decide) (hts _ (List.mem_cons_of_mem _ kw_t3_45)) (fun _ h9 => h9) rfl (by decide +kernel) rfl rfl (Nat.le_of_ble_eq_true rfl) dX6_start_129 (fun H locs hP _ hS => ?_)
        obtain ⟨v_57, ev_57⟩ : ∃ z, z = mU v_52 45 (upd (v_52 45) 4 t_56) := ⟨_, rfl⟩
        have hP : va_P (dC, dI) vwCl (mW cI cZ cS cC cJ a v_57) H := by rw [ev_57]; exact mW_put hP (by omega) rfl
        have hy9 := kt_addI (x := t_53) (by omega) (by omega) et_56
        have hB := hB.putM (m := gn + 1) ev_57 (fun z => absurd z (by decide)) (by rw [if_pos rfl]; exact ⟨by omega, by omega⟩)
        have hL := hL.putM ev_57 (by decide)
        refine lv_aload_n hx hb dX6_start_132 rfl (lv_at hl 0 rfl) ?_
        refine lv_iload_n hx hb dX6_start_133 rfl (lv_at hl 1 rfl) ?_
        refine lv_aload_n hx hb dX6_start_134 rfl (lv_at hl 0 rfl) ?_
        refine va_get (D := (dC, dI)) (ci := 6) (v := .ref (a 46)) (C := RX6) (T := TX6) (N := 43) hx hb hts (fun w h => List.mem_cons_of_mem _ (inWX6 w h)) hown hK hP 45 at_45 rfl 9 (by decide) (hts _ (List.mem_cons_of_mem _ kw_t3_50)) (fun _ h9 => h9) rfl dX6_start_135 ?_
        refine lv_iload_n hx hb dX6_start_138 rfl (lv_at hl 1 rfl) ?_
        refine va_iald hx hb hK hP 46 0 at_46 rfl (kt_inN ei0 (by omega) (by decide)) dX6_start_139 ?_
        refine lv_topi (fun t_58 et_58 => ?_)
        rw [ei0, nI_clamp (by omega)] at et_58
        refine lv_if_ne (tgt := 147) hx hb dX6_start_140 (by decide) (fun c_59 => ?_) (fun c_59 => ?_)
        · refine lv_iconst (v := 5) hx hb dX6_start_147 (by decide) ?_
          have hFc := mA_free (a := a) hS hA hAc
          refine va_callv (va_runV (As := [.int p0, .int 5]) (rest := []) ⟨hx, hb, hml, hown, hts⟩ (c_X6_begins l dC dI cI cZ cS cC cJ a v_57 H.size p0 5 hD (gn + 1) (by omega) hB.self i0 (by omega) ei0 0 (rL.zero hL (rL.at0 hL hi0 (by rw [show v_57 52 = v 52 from (by rw [ev_57, mU_ne _ _ (by first | decide | omega), ev_52, mU_ne _ _ (by first | decide | omega), ev_50, mU_ne _ _ (by first | decide | omega), ev_5, mU_ne _ _ (by first | decide | omega), ev_3, mU_ne _ _ (by first | decide | omega)])]; exact h0))) (Or.inl ⟨rfl, by decide⟩)) (cwV 2 hts (gV (fun w h => List.mem_cons_of_mem _ h) kw_t3_236 kw_t3_238 kw_s0_19 kw_t1_7 kw_t3_239) rfl rfl rfl (by decide +kernel) ⟨Nat.le_of_ble_eq_true rfl, Nat.le_of_ble_eq_true rfl⟩) ⟨fun av U g mk q => by obtain ⟨q0, q1, qP, qK, qN⟩ := q; exact ⟨q0, q1, qP, va_K.moved (u := U) (U := U.calling g mk av) (Vm.Alike.refl U.vm) qK, mN_same qN⟩, va_recv hK hP (ci := 6) (q0 := 45) rfl at_45, fun U hU hW => ⟨rfl, by rw [hU], by rw [hU]; exact hP, va_K.moved hW.alike hK, mN_warm hW hN⟩⟩ rfl rfl hl.1 rfl (lv_room (Nat.le_of_ble_eq_true rfl)) dX6_start_148 ⟨Nat.le_of_ble_eq_true rfl, Nat.le_of_ble_eq_true rfl⟩) hS (fun q _ h => hFc q h) hFc (fun v_60 t H locs ht hvm hw_60 hP _ _ hS => ?_)
          have hP := kt_heap2 ht hP
          clear ht hFc
          have hP : va_P (dC, dI) vwCl (mW cI cZ cS cC cJ a v_60) H := hP
          have hB := hB.trans hw_60.1
          have hL := hw_60.2.1
          exact W.vret hx hb hr (fun t ht hW => ⟨⟨v_60, rfl, ⟨hB, hL⟩, kt_heap ht hP⟩, hS.F ht⟩) hS.2.2 dX6_start_151
        · refine lv_iconst (v := 1) hx hb dX6_start_143 (by decide) ?_
          refine lv_goto (tgt := 148) hx hb dX6_start_144 (by decide) ?_
          have hFc := mA_free (a := a) hS hA hAc
          refine va_callv (va_runV (As := [.int p0, .int 1]) (rest := []) ⟨hx, hb, hml, hown, hts⟩ (c_X6_begins l dC dI cI cZ cS cC cJ a v_57 H.size p0 1 hD (gn + 1) (by omega) hB.self i0 (by omega) ei0 0 (rL.zero hL (rL.at0 hL hi0 (by rw [show v_57 52 = v 52 from (by rw [ev_57, mU_ne _ _ (by first | decide | omega), ev_52, mU_ne _ _ (by first | decide | omega), ev_50, mU_ne _ _ (by first | decide | omega), ev_5, mU_ne _ _ (by first | decide | omega), ev_3, mU_ne _ _ (by first | decide | omega)])]; exact h0))) (Or.inl ⟨rfl, by decide⟩)) (cwV 2 hts (gV (fun w h => List.mem_cons_of_mem _ h) kw_t3_236 kw_t3_238 kw_s0_19 kw_t1_7 kw_t3_239) rfl rfl rfl (by decide +kernel) ⟨Nat.le_of_ble_eq_true rfl, Nat.le_of_ble_eq_true rfl⟩) ⟨fun av U g mk q => by obtain ⟨q0, q1, qP, qK, qN⟩ := q; exact ⟨q0, q1, qP, va_K.moved (u := U) (U := U.calling g mk av) (Vm.Alike.refl U.vm) qK, mN_same qN⟩, va_recv hK hP (ci := 6) (q0 := 45) rfl at_45, fun U hU hW => ⟨rfl, by rw [hU], by rw [hU]; exact hP, va_K.moved hW.alike hK, mN_warm hW hN⟩⟩ rfl rfl hl.1 rfl (lv_room (Nat.le_of_ble_eq_true rfl)) dX6_start_148 ⟨Nat.le_of_ble_eq_true rfl, Nat.le_of_ble_eq_true rfl⟩) hS (fun q _ h => hFc q h) hFc (fun v_61 t H locs ht hvm hw_61 hP _ _ hS => ?_)
          have hP := kt_heap2 ht hP
          clear ht hFc
          have hP : va_P (dC, dI) vwCl (mW cI cZ cS cC cJ a v_61) H := hP
          have hB := hB.trans hw_61.1
          have hL := hw_61.2.1
          exact W.vret hx hb hr (fun t ht hW => ⟨⟨v_61, rfl, ⟨hB, hL⟩, kt_heap ht hP⟩, hS.F ht⟩) hS.2.2 dX6_start_151
      · refine lv_aload_n hx hb dX6_start_64 rfl (lv_at hl 0 rfl) ?_
        refine va_get (D := (dC, dI)) (ci := 6) (v := .ref (a 73)) (C := RX6) (T := TX6) (N := 43) hx hb hts (fun w h => List.mem_cons_of_mem _ (inWX6 w h)) hown hK hP 45 at_45 rfl 36 (by decide) (hts _ (List.mem_cons_of_mem _ kw_t3_77)) (fun _ h9 => h9) rfl dX6_start_65 ?_
        refine lv_aload_n hx hb dX6_start_68 rfl (lv_at hl 0 rfl) ?_
        refine va_get (D := (dC, dI)) (ci := 6) (v := .int (v_52 45 4)) (C := RX6) (T := TX6) (N := 43) hx hb hts (fun w h => List.mem_cons_of_mem _ (inWX6 w h)) hown hK hP 45 at_45 rfl 4 (by decide) (hts _ (List.mem_cons_of_mem _ kw_t3_45)) (fun _ h9 => h9) rfl dX6_start_69 ?_
        refine lv_topi (fun t_62 et_62 => ?_)
        obtain rfl : t_53 = t_62 := et_53.trans et_62.symm
        refine lv_iload_n hx hb dX6_start_72 rfl (lv_at hl 1 rfl) ?_
        obtain ⟨ix_64, hx_64, ex_64⟩ := kt_idx (x := t_53) (n := 500) (by have z0 := c_6; have z1 := c_49; have z2 := hsc_51; have z3 := hsc_53; have z4 := c_54; (try simp only [Int32.lt_iff_toInt_lt, Int32.le_iff_toInt_le, ← Int32.toInt_inj, L0, L1, L2, L3, L4, L6, L9, L500, L5, L7, L10, L12, L15, L16, L20, L63, L1000, L1023, L2000, L10000, L100000, Lm1] at z0 z1 z2 z3 z4); omega) (by have z0 := c_6; have z1 := c_49; have z2 := hsc_51; have z3 := hsc_53; have z4 := c_54; (try simp only [Int32.lt_iff_toInt_lt, Int32.le_iff_toInt_le, ← Int32.toInt_inj, L0, L1, L2, L3, L4, L6, L9, L500, L5, L7, L10, L12, L15, L16, L20, L63, L1000, L1023, L2000, L10000, L100000, Lm1] at z0 z1 z2 z3 z4); omega)
        refine va_iast hx hb hK hP (mD_of hD hAc) hS 73 0 at_73 rfl (kt_inN ex_64 (by omega) (by decide)) dX6_start_73 (fun H locs hP _ hS => ?_)
        obtain ⟨v_65, ev_65⟩ : ∃ z, z = mU v_52 73 (upd (v_52 73) ix_64 p0) := ⟨_, rfl⟩
        have hP : va_P (dC, dI) vwCl (mW cI cZ cS cC cJ a v_65) H := by rw [ev_65]; exact mW_put hP (by omega) (by rw [ex_64, nI_clamp (by omega)]; rfl)
        have hB := hB.put ev_65 (by decide)
        have hL := hL.put ev_65 (by decide)
        refine lv_aload_n hx hb dX6_start_74 rfl (lv_at hl 0 rfl) ?_
        refine va_get (D := (dC, dI)) (ci := 6) (v := .ref (a 74)) (C := RX6) (T := TX6) (N := 43) hx hb hts (fun w h => List.mem_cons_of_mem _ (inWX6 w h)) hown hK hP 45 at_45 rfl 37 (by decide) (hts _ (List.mem_cons_of_mem _ kw_t3_78)) (fun _ h9 => h9) rfl dX6_start_75 ?_
        refine lv_aload_n hx hb dX6_start_78 rfl (lv_at hl 0 rfl) ?_
        refine va_get (D := (dC, dI)) (ci := 6) (v := .int (v_65 45 4)) (C := RX6) (T := TX6) (N := 43) hx hb hts (fun w h => List.mem_cons_of_mem _ (inWX6 w h)) hown hK hP 45 at_45 rfl 4 (by decide) (hts _ (List.mem_cons_of_mem _ kw_t3_45)) (fun _ h9 => h9) rfl dX6_start_79 ?_
        refine lv_topi (fun t_66 et_66 => ?_)
        have hsc_66 : 0 ≤ t_66.toInt ∧ t_66.toInt ≤ gn := by rw [et_66]; exact hB.2.1
        refine lv_aload_n hx hb dX6_start_82 rfl (lv_at hl 0 rfl) ?_
        refine va_get (D := (dC, dI)) (ci := 6) (v := .ref (a 50)) (C := RX6) (T := TX6) (N := 43) hx hb hts (fun w h => List.mem_cons_of_mem _ (inWX6 w h)) hown hK hP 45 at_45 rfl 13 (by decide) (hts _ (List.mem_cons_of_mem _ kw_t3_54)) (fun _ h9 => h9) rfl dX6_start_83 ?_
        refine lv_iload_n hx hb dX6_start_86 rfl (lv_at hl 1 rfl) ?_
        refine va_iald hx hb hK hP 50 0 at_50 rfl (kt_inN ei0 (by omega) (by decide)) dX6_start_87 ?_
        refine lv_topi (fun t_67 et_67 => ?_)
        rw [ei0, nI_clamp (by omega)] at et_67
        obtain ⟨ix_69, hx_69, ex_69⟩ := kt_idx (x := t_66) (n := 500) (by have z0 := c_6; have z1 := c_49; have z2 := hsc_51; have z3 := hsc_53; have z4 := c_54; have z5 := hsc_66; (try simp only [Int32.lt_iff_toInt_lt, Int32.le_iff_toInt_le, ← Int32.toInt_inj, L0, L1, L2, L3, L4, L6, L9, L500, L5, L7, L10, L12, L15, L16, L20, L63, L1000, L1023, L2000, L10000, L100000, Lm1] at z0 z1 z2 z3 z4 z5); omega) (by have z0 := c_6; have z1 := c_49; have z2 := hsc_51; have z3 := hsc_53; have z4 := c_54; have z5 := hsc_66; (try simp only [Int32.lt_iff_toInt_lt, Int32.le_iff_toInt_le, ← Int32.toInt_inj, L0, L1, L2, L3, L4, L6, L9, L500, L5, L7, L10, L12, L15, L16, L20, L63, L1000, L1023, L2000, L10000, L100000, Lm1] at z0 z1 z2 z3 z4 z5); omega)
        refine va_iast hx hb hK hP (mD_of hD hAc) hS 74 0 at_74 rfl (kt_inN ex_69 (by omega) (by decide)) dX6_start_88 (fun H locs hP _ hS => ?_)
        obtain ⟨v_70, ev_70⟩ : ∃ z, z = mU v_65 74 (upd (v_65 74) ix_69 t_67) := ⟨_, rfl⟩
        have hP : va_P (dC, dI) vwCl (mW cI cZ cS cC cJ a v_70) H := by rw [ev_70]; exact mW_put hP (by omega) (by rw [ex_69, nI_clamp (by omega)]; rfl)
        have hB := hB.put ev_70 (by decide)
        have hL := hL.put ev_70 (by decide)
        refine lv_aload_n hx hb dX6_start_89 rfl (lv_at hl 0 rfl) ?_
        refine va_get (D := (dC, dI)) (ci := 6) (v := .ref (a 75)) (C := RX6) (T := TX6) (N := 43) hx hb hts (fun w h => List.mem_cons_of_mem _ (inWX6 w h)) hown hK hP 45 at_45 rfl 38 (by decide) (hts _ (List.mem_cons_of_mem _ kw_t3_79)) (fun _ h9 => h9) rfl dX6_start_90 ?_
        refine lv_aload_n hx hb dX6_start_93 rfl (lv_at hl 0 rfl) ?_
        refine va_get (D := (dC, dI)) (ci := 6) (v := .int (v_70 45 4)) (C := RX6) (T := TX6) (N := 43) hx hb hts (fun w h => List.mem_cons_of_mem _ (inWX6 w h)) hown hK hP 45 at_45 rfl 4 (by decide) (hts _ (List.mem_cons_of_mem _ kw_t3_45)) (fun _ h9 => h9) rfl dX6_start_94 ?_
        refine lv_topi (fun t_71 et_71 => ?_)
        have hsc_71 : 0 ≤ t_71.toInt ∧ t_71.toInt ≤ gn := by rw [et_71]; exact hB.2.1
        refine lv_aload_n hx hb dX6_start_97 rfl (lv_at hl 0 rfl) ?_
        refine va_get (D := (dC, dI)) (ci := 6) (v := .int (v_70 45 1)) (C := RX6) (T := TX6) (N := 43) hx hb hts (fun w h => List.mem_cons_of_mem _ (inWX6 w h)) hown hK hP 45 at_45 rfl 1 (by decide) (hts _ (List.mem_cons_of_mem _ kw_t3_42)) (fun _ h9 => h9) rfl dX6_start_98 ?_
        refine lv_topi (fun t_72 et_72 => ?_)
        obtain ⟨ix_74, hx_74, ex_74⟩ := kt_idx (x := t_71) (n := 500) (by have z0 := c_6; have z1 := c_49; have z2 := hsc_51; have z3 := hsc_53; have z4 := c_54; have z5 := hsc_66; have z6 := hsc_71; (try simp only [Int32.lt_iff_toInt_lt, Int32.le_iff_toInt_le, ← Int32.toInt_inj, L0, L1, L2, L3, L4, L6, L9, L500, L5, L7, L10, L12, L15, L16, L20, L63, L1000, L1023, L2000, L10000, L100000, Lm1] at z0 z1 z2 z3 z4 z5 z6); omega) (by have z0 := c_6; have z1 := c_49; have z2 := hsc_51; have z3 := hsc_53; have z4 := c_54; have z5 := hsc_66; have z6 := hsc_71; (try simp only [Int32.lt_iff_toInt_lt, Int32.le_iff_toInt_le, ← Int32.toInt_inj, L0, L1, L2, L3, L4, L6, L9, L500, L5, L7, L10, L12, L15, L16, L20, L63, L1000, L1023, L2000, L10000, L100000, Lm1] at z0 z1 z2 z3 z4 z5 z6); omega)
        refine va_iast hx hb hK hP (mD_of hD hAc) hS 75 0 at_75 rfl (kt_inN ex_74 (by omega) (by decide)) dX6_start_101 (fun H locs hP _ hS => ?_)
        obtain ⟨v_75, ev_75⟩ : ∃ z, z = mU v_70 75 (upd (v_70 75) ix_74 t_72) := ⟨_, rfl⟩
        have hP : va_P (dC, dI) vwCl (mW cI cZ cS cC cJ a v_75) H := by rw [ev_75]; exact mW_put hP (by omega) (by rw [ex_74, nI_clamp (by omega)]; rfl)
        have hB := hB.put ev_75 (by decide)
        have hL := hL.put ev_75 (by decide)
        refine lv_aload_n hx hb dX6_start_102 rfl (lv_at hl 0 rfl) ?_
        refine va_get (D := (dC, dI)) (ci := 6) (v := .ref (a 76)) (C := RX6) (T := TX6) (N := 43) hx hb hts (fun w h => List.mem_cons_of_mem _ (inWX6 w h)) hown hK hP 45 at_45 rfl 39 (by decide) (hts _ (List.mem_cons_of_mem _ kw_t3_80)) (fun _ h9 => h9) rfl dX6_start_103 ?_
        refine lv_aload_n hx hb dX6_start_106 rfl (lv_at hl 0 rfl) ?_
        refine va_get (D := (dC, dI)) (ci := 6) (v := .int (v_75 45 4)) (C := RX6) (T := TX6) (N := 43) hx hb hts (fun w h => List.mem_cons_of_mem _ (inWX6 w h)) hown hK hP 45 at_45 rfl 4 (by decide) (hts _ (List.mem_cons_of_mem _ kw_t3_45)) (fun _ h9 => h9) rfl dX6_start_107 ?_
        refine lv_topi (fun t_76 et_76 => ?_)
        have hsc_76 : 0 ≤ t_76.toInt ∧ t_76.toInt ≤ gn := by rw [et_76]; exact hB.2.1
        refine lv_iconst (v := (-1)) hx hb dX6_start_110 (by decide) ?_
        obtain ⟨ix_78, hx_78, ex_78⟩ := kt_idx (x := t_76) (n := 500) (by have z0 := c_6; have z1 := c_49; have z2 := hsc_51; have z3 := hsc_53; have z4 := c_54; have z5 := hsc_66; have z6 := hsc_71; have z7 := hsc_76; (try simp only [Int32.lt_iff_toInt_lt, Int32.le_iff_toInt_le, ← Int32.toInt_inj, L0, L1, L2, L3, L4, L6, L9, L500, L5, L7, L10, L12, L15, L16, L20, L63, L1000, L1023, L2000, L10000, L100000, Lm1] at z0 z1 z2 z3 z4 z5 z6 z7); omega) (by have z0 := c_6; have z1 := c_49; have z2 := hsc_51; have z3 := hsc_53; have z4 := c_54; have z5 := hsc_66; have z6 := hsc_71; have z7 := hsc_76; (try simp only [Int32.lt_iff_toInt_lt, Int32.le_iff_toInt_le, ← Int32.toInt_inj, L0, L1, L2, L3, L4, L6, L9, L500, L5, L7, L10, L12, L15, L16, L20, L63, L1000, L1023, L2000, L10000, L100000, Lm1] at z0 z1 z2 z3 z4 z5 z6 z7); omega)
        refine va_iast hx hb hK hP (mD_of hD hAc) hS 76 0 at_76 rfl (kt_inN ex_78 (by omega) (by decide)) dX6_start_111 (fun H locs hP _ hS => ?_)
        obtain ⟨v_79, ev_79⟩ : ∃ z, z = mU v_75 76 (upd (v_75 76) ix_78 (-1)) := ⟨_, rfl⟩
        have hP : va_P (dC, dI) vwCl (mW cI cZ cS cC cJ a v_79) H := by rw [ev_79]; exact mW_put hP (by omega) (by rw [ex_78, nI_clamp (by omega)]; rfl)
        have hB := hB.put ev_79 (by decide)
        have hL := hL.put ev_79 (by decide)
        refine lv_aload_n hx hb dX6_start_112 rfl (lv_at hl 0 rfl) ?_
        refine va_get (D := (dC, dI)) (ci := 6) (v := .ref (a 77)) (C := RX6) (T := TX6) (N := 43) hx hb hts (fun w h => List.mem_cons_of_mem _ (inWX6 w h)) hown hK hP 45 at_45 rfl 40 (by decide) (hts _ (List.mem_cons_of_mem _ kw_t3_81)) (fun _ h9 => h9) rfl dX6_start_113 ?_
        refine lv_aload_n hx hb dX6_start_116 rfl (lv_at hl 0 rfl) ?_
        refine va_get (D := (dC, dI)) (ci := 6) (v := .int (v_79 45 4)) (C := RX6) (T := TX6) (N := 43) hx hb hts (fun w h => List.mem_cons_of_mem _ (inWX6 w h)) hown hK hP 45 at_45 rfl 4 (by decide) (hts _ (List.mem_cons_of_mem _ kw_t3_45)) (fun _ h9 => h9) rfl dX6_start_117 ?_
        refine lv_topi (fun t_80 et_80 => ?_)
        have hsc_80 : 0 ≤ t_80.toInt ∧ t_80.toInt ≤ gn := by rw [et_80]; exact hB.2.1
        refine lv_iload_n hx hb dX6_start_120 rfl (lv_at hl 2 rfl) ?_
        obtain ⟨ix_82, hx_82, ex_82⟩ := kt_idx (x := t_80) (n := 500) (by have z0 := c_6; have z1 := c_49; have z2 := hsc_51; have z3 := hsc_53; have z4 := c_54; have z5 := hsc_66; have z6 := hsc_71; have z7 := hsc_76; have z8 := hsc_80; (try simp only [Int32.lt_iff_toInt_lt, Int32.le_iff_toInt_le, ← Int32.toInt_inj, L0, L1, L2, L3, L4, L6, L9, L500, L5, L7, L10, L12, L15, L16, L20, L63, L1000, L1023, L2000, L10000, L100000, Lm1] at z0 z1 z2 z3 z4 z5 z6 z7 z8); omega) (by have z0 := c_6; have z1 := c_49; have z2 := hsc_51; have z3 := hsc_53; have z4 := c_54; have z5 := hsc_66; have z6 := hsc_71; have z7 := hsc_76; have z8 := hsc_80; (try simp only [Int32.lt_iff_toInt_lt, Int32.le_iff_toInt_le, ← Int32.toInt_inj, L0, L1, L2, L3, L4, L6, L9, L500, L5, L7, L10, L12, L15, L16, L20, L63, L1000, L1023, L2000, L10000, L100000, Lm1] at z0 z1 z2 z3 z4 z5 z6 z7 z8); omega)
        refine va_zast hx hb hK hP (mD_of hD hAc) hS 77 1 at_77 rfl (kt_inN ex_82 (by omega) (by decide)) dX6_start_121 (fun H locs hP _ hS => ?_)
        obtain ⟨v_83, ev_83⟩ : ∃ z, z = mU v_79 77 (upd (v_79 77) ix_82 (vp_nar .boolean p1)) := ⟨_, rfl⟩
        have hP : va_P (dC, dI) vwCl (mW cI cZ cS cC cJ a v_83) H := by rw [ev_83]; exact mW_put hP (by omega) (by rw [ex_82, nI_clamp (by omega)]; rfl)
        have hB := hB.put ev_83 (by decide)
        have hL := hL.put ev_83 (by decide)
        refine lv_aload_n hx hb dX6_start_122 rfl (lv_at hl 0 rfl) ?_
        refine lv_dup hx hb dX6_start_123 rfl ?_
        refine va_get (D := (dC, dI)) (ci := 6) (v := .int (v_83 45 4)) (C := RX6) (T := TX6) (N := 43) hx hb hts (fun w h => List.mem_cons_of_mem _ (inWX6 w h)) hown hK hP 45 at_45 rfl 4 (by decide) (hts _ (List.mem_cons_of_mem _ kw_t3_45)) (fun _ h9 => h9) rfl dX6_start_124 ?_
        refine lv_topi (fun t_84 et_84 => ?_)
        have hsc_84 : 0 ≤ t_84.toInt ∧ t_84.toInt ≤ gn := by rw [et_84]; exact hB.2.1
        refine lv_iconst (v := 1) hx hb dX6_start_127 (by decide) ?_
        refine lv_iadd hx hb dX6_start_128 ?_
        refine lv_topi (fun t_85 et_85 => ?_)
        refine va_put (D := (dC, dI)) (ci := 6) (v := .int t_85) (ty := .int) (C := RX6) (T := TX6) (N := 43) hx hb hts (fun w h => List.mem_cons_of_mem _ (inWX6 w h)) tyX6 tyX6_ok nmX6 hown hK hP (mD_of hD hAc) hS 45 at_45 rfl 4 (by decide) (hts _ (List.mem_cons_of_mem _ kw_t3_45)) (fun _ h9 => h9) rfl (by decide +kernel) rfl rfl (Nat.le_of_ble_eq_true rfl) dX6_start_129 (fun H locs hP _ hS => ?_)
        obtain ⟨v_86, ev_86⟩ : ∃ z, z = mU v_83 45 (upd (v_83 45) 4 t_85) := ⟨_, rfl⟩
        have hP : va_P (dC, dI) vwCl (mW cI cZ cS cC cJ a v_86) H := by rw [ev_86]; exact mW_put hP (by omega) rfl
        have hy9 := kt_addI (x := t_84) (by omega) (by omega) et_85
        have hB := hB.putM (m := gn + 1) ev_86 (fun z => absurd z (by decide)) (by rw [if_pos rfl]; exact ⟨by omega, by omega⟩)
        have hL := hL.putM ev_86 (by decide)
        refine lv_aload_n hx hb dX6_start_132 rfl (lv_at hl 0 rfl) ?_
        refine lv_iload_n hx hb dX6_start_133 rfl (lv_at hl 1 rfl) ?_
        refine lv_aload_n hx hb dX6_start_134 rfl (lv_at hl 0 rfl) ?_
        refine va_get (D := (dC, dI)) (ci := 6) (v := .ref (a 46)) (C := RX6) (T := TX6) (N := 43) hx hb hts (fun w h => List.mem_cons_of_mem _ (inWX6 w h)) hown hK hP 45 at_45 rfl 9 (by decide) (hts _ (List.mem_cons_of_mem _ kw_t3_50)) (fun _ h9 => h9) rfl dX6_start_135 ?_
        refine lv_iload_n hx hb dX6_start_138 rfl (lv_at hl 1 rfl) ?_
        refine va_iald hx hb hK hP 46 0 at_46 rfl (kt_inN ei0 (by omega) (by decide)) dX6_start_139 ?_
        refine lv_topi (fun t_87 et_87 => ?_)
        rw [ei0, nI_clamp (by omega)] at et_87
        refine lv_if_ne (tgt := 147) hx hb dX6_start_140 (by decide) (fun c_88 => ?_) (fun c_88 => ?_)
        · refine lv_iconst (v := 5) hx hb dX6_start_147 (by decide) ?_
          have hFc := mA_free (a := a) hS hA hAc
          refine va_callv (va_runV (As := [.int p0, .int 5]) (rest := []) ⟨hx, hb, hml, hown, hts⟩ (c_X6_begins l dC dI cI cZ cS cC cJ a v_86 H.size p0 5 hD (gn + 1) (by omega) hB.self i0 (by omega) ei0 0 (rL.zero hL (rL.at0 hL hi0 (by rw [show v_86 52 = v 52 from (by rw [ev_86, mU_ne _ _ (by first | decide | omega), ev_83, mU_ne _ _ (by first | decide | omega), ev_79, mU_ne _ _ (by first | decide | omega), ev_75, mU_ne _ _ (by first | decide | omega), ev_70, mU_ne _ _ (by first | decide | omega), ev_65, mU_ne _ _ (by first | decide | omega), ev_52, mU_ne _ _ (by first | decide | omega), ev_50, mU_ne _ _ (by first | decide | omega), ev_5, mU_ne _ _ (by first | decide | omega), ev_3, mU_ne _ _ (by first | decide | omega)])]; exact h0))) (Or.inl ⟨rfl, by decide⟩)) (cwV 2 hts (gV (fun w h => List.mem_cons_of_mem _ h) kw_t3_236 kw_t3_238 kw_s0_19 kw_t1_7 kw_t3_239) rfl rfl rfl (by decide +kernel) ⟨Nat.le_of_ble_eq_true rfl, Nat.le_of_ble_eq_true rfl⟩) ⟨fun av U g mk q => by obtain ⟨q0, q1, qP, qK, qN⟩ := q; exact ⟨q0, q1, qP, va_K.moved (u := U) (U := U.calling g mk av) (Vm.Alike.refl U.vm) qK, mN_same qN⟩, va_recv hK hP (ci := 6) (q0 := 45) rfl at_45, fun U hU hW => ⟨rfl, by rw [hU], by rw [hU]; exact hP, va_K.moved hW.alike hK, mN_warm hW hN⟩⟩ rfl rfl hl.1 rfl (lv_room (Nat.le_of_ble_eq_true rfl)) dX6_start_148 ⟨Nat.le_of_ble_eq_true rfl, Nat.le_of_ble_eq_true rfl⟩) hS (fun q _ h => hFc q h) hFc (fun v_89 t H locs ht hvm hw_89 hP _ _ hS => ?_)
          have hP := kt_heap2 ht hP
          clear ht hFc
          have hP : va_P (dC, dI) vwCl (mW cI cZ cS cC cJ a v_89) H := hP
          have hB := hB.trans hw_89.1
          have hL := hw_89.2.1
          exact W.vret hx hb hr (fun t ht hW => ⟨⟨v_89, rfl, ⟨hB, hL⟩, kt_heap ht hP⟩, hS.F ht⟩) hS.2.2 dX6_start_151
        · refine lv_iconst (v := 1) hx hb dX6_start_143 (by decide) ?_
          refine lv_goto (tgt := 148) hx hb dX6_start_144 (by decide) ?_
          have hFc := mA_free (a := a) hS hA hAc
          refine va_callv (va_runV (As := [.int p0, .int 1]) (rest := []) ⟨hx, hb, hml, hown, hts⟩ (c_X6_begins l dC dI cI cZ cS cC cJ a v_86 H.size p0 1 hD (gn + 1) (by omega) hB.self i0 (by omega) ei0 0 (rL.zero hL (rL.at0 hL hi0 (by rw [show v_86 52 = v 52 from (by rw [ev_86, mU_ne _ _ (by first | decide | omega), ev_83, mU_ne _ _ (by first | decide | omega), ev_79, mU_ne _ _ (by first | decide | omega), ev_75, mU_ne _ _ (by first | decide | omega), ev_70, mU_ne _ _ (by first | decide | omega), ev_65, mU_ne _ _ (by first | decide | omega), ev_52, mU_ne _ _ (by first | decide | omega), ev_50, mU_ne _ _ (by first | decide | omega), ev_5, mU_ne _ _ (by first | decide | omega), ev_3, mU_ne _ _ (by first | decide | omega)])]; exact h0))) (Or.inl ⟨rfl, by decide⟩)) (cwV 2 hts (gV (fun w h => List.mem_cons_of_mem _ h) kw_t3_236 kw_t3_238 kw_s0_19 kw_t1_7 kw_t3_239) rfl rfl rfl (by decide +kernel) ⟨Nat.le_of_ble_eq_true rfl, Nat.le_of_ble_eq_true rfl⟩) ⟨fun av U g mk q => by obtain ⟨q0, q1, qP, qK, qN⟩ := q; exact ⟨q0, q1, qP, va_K.moved (u := U) (U := U.calling g mk av) (Vm.Alike.refl U.vm) qK, mN_same qN⟩, va_recv hK hP (ci := 6) (q0 := 45) rfl at_45, fun U hU hW => ⟨rfl, by rw [hU], by rw [hU]; exact hP, va_K.moved hW.alike hK, mN_warm hW hN⟩⟩ rfl rfl hl.1 rfl (lv_room (Nat.le_of_ble_eq_true rfl)) dX6_start_148 ⟨Nat.le_of_ble_eq_true rfl, Nat.le_of_ble_eq_true rfl⟩) hS (fun q _ h => hFc q h) hFc (fun v_90 t H locs ht hvm hw_90 hP _ _ hS => ?_)
          have hP := kt_heap2 ht hP
          clear ht hFc
          have hP : va_P (dC, dI) vwCl (mW cI cZ cS cC cJ a v_90) H := hP
          have hB := hB.trans hw_90.1
          have hL := hw_90.2.1
          exact W.vret hx hb hr (fun t ht hW => ⟨⟨v_90, rfl, ⟨hB, hL⟩, kt_heap ht hP⟩, hS.F ht⟩) hS.2.2 dX6_start_151
    · refine lv_iconst (v := 1) hx hb dX6_start_38 (by decide) ?_
      refine lv_goto (tgt := 43) hx hb dX6_start_39 (by decide) ?_
      refine va_zast hx hb hK hP (mD_of hD hAc) hS 58 1 at_58 rfl (kt_inN ei0 (by omega) (by decide)) dX6_start_43 (fun H locs hP _ hS => ?_)
      obtain ⟨v_91, ev_91⟩ : ∃ z, z = mU v_5 58 (upd (v_5 58) i0 (vp_nar .boolean 1)) := ⟨_, rfl⟩
      have hP : va_P (dC, dI) vwCl (mW cI cZ cS cC cJ a v_91) H := by rw [ev_91]; exact mW_put hP (by omega) (by rw [ei0, nI_clamp (by omega)]; rfl)
      have hB := hB.put ev_91 (by decide)
      have hL := hL.put ev_91 (by decide)
      refine lv_aload_n hx hb dX6_start_44 rfl (lv_at hl 0 rfl) ?_
      refine va_get (D := (dC, dI)) (ci := 6) (v := .ref (a 57)) (C := RX6) (T := TX6) (N := 43) hx hb hts (fun w h => List.mem_cons_of_mem _ (inWX6 w h)) hown hK hP 45 at_45 rfl 20 (by decide) (hts _ (List.mem_cons_of_mem _ kw_t3_61)) (fun _ h9 => h9) rfl dX6_start_45 ?_
      refine lv_iload_n hx hb dX6_start_48 rfl (lv_at hl 1 rfl) ?_
      refine lv_aload_n hx hb dX6_start_49 rfl (lv_at hl 0 rfl) ?_
      refine va_get (D := (dC, dI)) (ci := 6) (v := .int (v_91 45 4)) (C := RX6) (T := TX6) (N := 43) hx hb hts (fun w h => List.mem_cons_of_mem _ (inWX6 w h)) hown hK hP 45 at_45 rfl 4 (by decide) (hts _ (List.mem_cons_of_mem _ kw_t3_45)) (fun _ h9 => h9) rfl dX6_start_50 ?_
      refine lv_topi (fun t_92 et_92 => ?_)
      have hsc_92 : 0 ≤ t_92.toInt ∧ t_92.toInt ≤ gn := by rw [et_92]; exact hB.2.1
      refine va_iast hx hb hK hP (mD_of hD hAc) hS 57 0 at_57 rfl (kt_inN ei0 (by omega) (by decide)) dX6_start_53 (fun H locs hP _ hS => ?_)
      obtain ⟨v_93, ev_93⟩ : ∃ z, z = mU v_91 57 (upd (v_91 57) i0 t_92) := ⟨_, rfl⟩
      have hP : va_P (dC, dI) vwCl (mW cI cZ cS cC cJ a v_93) H := by rw [ev_93]; exact mW_put hP (by omega) (by rw [ei0, nI_clamp (by omega)]; rfl)
      have hB := hB.put57 ev_93 (by omega)
      have hL := hL.put ev_93 (by decide)
      refine lv_aload_n hx hb dX6_start_54 rfl (lv_at hl 0 rfl) ?_
      refine va_get (D := (dC, dI)) (ci := 6) (v := .int (v_93 45 4)) (C := RX6) (T := TX6) (N := 43) hx hb hts (fun w h => List.mem_cons_of_mem _ (inWX6 w h)) hown hK hP 45 at_45 rfl 4 (by decide) (hts _ (List.mem_cons_of_mem _ kw_t3_45)) (fun _ h9 => h9) rfl dX6_start_55 ?_
      refine lv_topi (fun t_94 et_94 => ?_)
      have hsc_94 : 0 ≤ t_94.toInt ∧ t_94.toInt ≤ gn := by rw [et_94]; exact hB.2.1
      refine lv_sipush (v := 500) hx hb dX6_start_58 (by decide) ?_
      refine lv_icmp_ge (tgt := 122) hx hb dX6_start_61 (by decide) (fun c_95 => ?_) (fun c_95 => ?_)
      · refine lv_aload_n hx hb dX6_start_122 rfl (lv_at hl 0 rfl) ?_
        refine lv_dup hx hb dX6_start_123 rfl ?_
        refine va_get (D := (dC, dI)) (ci := 6) (v := .int (v_93 45 4)) (C := RX6) (T := TX6) (N := 43) hx hb hts (fun w h => List.mem_cons_of_mem _ (inWX6 w h)) hown hK hP 45 at_45 rfl 4 (by decide) (hts _ (List.mem_cons_of_mem _ kw_t3_45)) (fun _ h9 => h9) rfl dX6_start_124 ?_
        refine lv_topi (fun t_96 et_96 => ?_)
        obtain rfl : t_94 = t_96 := et_94.trans et_96.symm
        refine lv_iconst (v := 1) hx hb dX6_start_127 (by decide) ?_
        refine lv_iadd hx hb dX6_start_128 ?_
        refine lv_topi (fun t_97 et_97 => ?_)
        refine va_put (D := (dC, dI)) (ci := 6) (v := .int t_97) (ty := .int) (C := RX6) (T := TX6) (N := 43) hx hb hts (fun w h => List.mem_cons_of_mem _ (inWX6 w h)) tyX6 tyX6_ok nmX6 hown hK hP (mD_of hD hAc) hS 45 at_45 rfl 4 (by decide) (hts _ (List.mem_cons_of_mem _ kw_t3_45)) (fun _ h9 => h9) rfl (by decide +kernel) rfl rfl (Nat.le_of_ble_eq_true rfl) dX6_start_129 (fun H locs hP _ hS => ?_)
        obtain ⟨v_98, ev_98⟩ : ∃ z, z = mU v_93 45 (upd (v_93 45) 4 t_97) := ⟨_, rfl⟩
        have hP : va_P (dC, dI) vwCl (mW cI cZ cS cC cJ a v_98) H := by rw [ev_98]; exact mW_put hP (by omega) rfl
        have hy9 := kt_addI (x := t_94) (by omega) (by omega) et_97
        have hB := hB.putM (m := gn + 1) ev_98 (fun z => absurd z (by decide)) (by rw [if_pos rfl]; exact ⟨by omega, by omega⟩)
        have hL := hL.putM ev_98 (by decide)
        refine lv_aload_n hx hb dX6_start_132 rfl (lv_at hl 0 rfl) ?_
        refine lv_iload_n hx hb dX6_start_133 rfl (lv_at hl 1 rfl) ?_
        refine lv_aload_n hx hb dX6_start_134 rfl (lv_at hl 0 rfl) ?_
        refine va_get (D := (dC, dI)) (ci := 6) (v := .ref (a 46)) (C := RX6) (T := TX6) (N := 43) hx hb hts (fun w h => List.mem_cons_of_mem _ (inWX6 w h)) hown hK hP 45 at_45 rfl 9 (by decide) (hts _ (List.mem_cons_of_mem _ kw_t3_50)) (fun _ h9 => h9) rfl dX6_start_135 ?_
        refine lv_iload_n hx hb dX6_start_138 rfl (lv_at hl 1 rfl) ?_
        refine va_iald hx hb hK hP 46 0 at_46 rfl (kt_inN ei0 (by omega) (by decide)) dX6_start_139 ?_
        refine lv_topi (fun t_99 et_99 => ?_)
        rw [ei0, nI_clamp (by omega)] at et_99
        refine lv_if_ne (tgt := 147) hx hb dX6_start_140 (by decide) (fun c_100 => ?_) (fun c_100 => ?_)
        · refine lv_iconst (v := 5) hx hb dX6_start_147 (by decide) ?_
          have hFc := mA_free (a := a) hS hA hAc
          refine va_callv (va_runV (As := [.int p0, .int 5]) (rest := []) ⟨hx, hb, hml, hown, hts⟩ (c_X6_begins l dC dI cI cZ cS cC cJ a v_98 H.size p0 5 hD (gn + 1) (by omega) hB.self i0 (by omega) ei0 0 (rL.zero hL (rL.at0 hL hi0 (by rw [show v_98 52 = v 52 from (by rw [ev_98, mU_ne _ _ (by first | decide | omega), ev_93, mU_ne _ _ (by first | decide | omega), ev_91, mU_ne _ _ (by first | decide | omega), ev_5, mU_ne _ _ (by first | decide | omega), ev_3, mU_ne _ _ (by first | decide | omega)])]; exact h0))) (Or.inl ⟨rfl, by decide⟩)) (cwV 2 hts (gV (fun w h => List.mem_cons_of_mem _ h) kw_t3_236 kw_t3_238 kw_s0_19 kw_t1_7 kw_t3_239) rfl rfl rfl (by decide +kernel) ⟨Nat.le_of_ble_eq_true rfl, Nat.le_of_ble_eq_true rfl⟩) ⟨fun av U g mk q => by obtain ⟨q0, q1, qP, qK, qN⟩ := q; exact ⟨q0, q1, qP, va_K.moved (u := U) (U := U.calling g mk av) (Vm.Alike.refl U.vm) qK, mN_same qN⟩, va_recv hK hP (ci := 6) (q0 := 45) rfl at_45, fun U hU hW => ⟨rfl, by rw [hU], by rw [hU]; exact hP, va_K.moved hW.alike hK, mN_warm hW hN⟩⟩ rfl rfl hl.1 rfl (lv_room (Nat.le_of_ble_eq_true rfl)) dX6_start_148 ⟨Nat.le_of_ble_eq_true rfl, Nat.le_of_ble_eq_true rfl⟩) hS (fun q _ h => hFc q h) hFc (fun v_101 t H locs ht hvm hw_101 hP _ _ hS => ?_)
          have hP := kt_heap2 ht hP
          clear ht hFc
          have hP : va_P (dC, dI) vwCl (mW cI cZ cS cC cJ a v_101) H := hP
          have hB := hB.trans hw_101.1
          have hL := hw_101.2.1
          exact W.vret hx hb hr (fun t ht hW => ⟨⟨v_101, rfl, ⟨hB, hL⟩, kt_heap ht hP⟩, hS.F ht⟩) hS.2.2 dX6_start_151
        · refine lv_iconst (v := 1) hx hb dX6_start_143 (by decide) ?_
          refine lv_goto (tgt := 148) hx hb dX6_start_144 (by decide) ?_
          have hFc := mA_free (a := a) hS hA hAc
          refine va_callv (va_runV (As := [.int p0, .int 1]) (rest := []) ⟨hx, hb, hml, hown, hts⟩ (c_X6_begins l dC dI cI cZ cS cC cJ a v_98 H.size p0 1 hD (gn + 1) (by omega) hB.self i0 (by omega) ei0 0 (rL.zero hL (rL.at0 hL hi0 (by rw [show v_98 52 = v 52 from (by rw [ev_98, mU_ne _ _ (by first | decide | omega), ev_93, mU_ne _ _ (by first | decide | omega), ev_91, mU_ne _ _ (by first | decide | omega), ev_5, mU_ne _ _ (by first | decide | omega), ev_3, mU_ne _ _ (by first | decide | omega)])]; exact h0))) (Or.inl ⟨rfl, by decide⟩)) (cwV 2 hts (gV (fun w h => List.mem_cons_of_mem _ h) kw_t3_236 kw_t3_238 kw_s0_19 kw_t1_7 kw_t3_239) rfl rfl rfl (by decide +kernel) ⟨Nat.le_of_ble_eq_true rfl, Nat.le_of_ble_eq_true rfl⟩) ⟨fun av U g mk q => by obtain ⟨q0, q1, qP, qK, qN⟩ := q; exact ⟨q0, q1, qP, va_K.moved (u := U) (U := U.calling g mk av) (Vm.Alike.refl U.vm) qK, mN_same qN⟩, va_recv hK hP (ci := 6) (q0 := 45) rfl at_45, fun U hU hW => ⟨rfl, by rw [hU], by rw [hU]; exact hP, va_K.moved hW.alike hK, mN_warm hW hN⟩⟩ rfl rfl hl.1 rfl (lv_room (Nat.le_of_ble_eq_true rfl)) dX6_start_148 ⟨Nat.le_of_ble_eq_true rfl, Nat.le_of_ble_eq_true rfl⟩) hS (fun q _ h => hFc q h) hFc (fun v_102 t H locs ht hvm hw_102 hP _ _ hS => ?_)
          have hP := kt_heap2 ht hP
          clear ht hFc
          have hP : va_P (dC, dI) vwCl (mW cI cZ cS cC cJ a v_102) H := hP
          have hB := hB.trans hw_102.1
          have hL := hw_102.2.1
          exact W.vret hx hb hr (fun t ht hW => ⟨⟨v_102, rfl, ⟨hB, hL⟩, kt_heap ht hP⟩, hS.F ht⟩) hS.2.2 dX6_start_151
      · refine lv_aload_n hx hb dX6_start_64 rfl (lv_at hl 0 rfl) ?_
        refine va_get (D := (dC, dI)) (ci := 6) (v := .ref (a 73)) (C := RX6) (T := TX6) (N := 43) hx hb hts (fun w h => List.mem_cons_of_mem _ (inWX6 w h)) hown hK hP 45 at_45 rfl 36 (by decide) (hts _ (List.mem_cons_of_mem _ kw_t3_77)) (fun _ h9 => h9) rfl dX6_start_65 ?_
        refine lv_aload_n hx hb dX6_start_68 rfl (lv_at hl 0 rfl) ?_
        refine va_get (D := (dC, dI)) (ci := 6) (v := .int (v_93 45 4)) (C := RX6) (T := TX6) (N := 43) hx hb hts (fun w h => List.mem_cons_of_mem _ (inWX6 w h)) hown hK hP 45 at_45 rfl 4 (by decide) (hts _ (List.mem_cons_of_mem _ kw_t3_45)) (fun _ h9 => h9) rfl dX6_start_69 ?_
        refine lv_topi (fun t_103 et_103 => ?_)
        obtain rfl : t_94 = t_103 := et_94.trans et_103.symm
        refine lv_iload_n hx hb dX6_start_72 rfl (lv_at hl 1 rfl) ?_
        obtain ⟨ix_105, hx_105, ex_105⟩ := kt_idx (x := t_94) (n := 500) (by have z0 := c_6; have z1 := c_49; have z2 := hsc_92; have z3 := hsc_94; have z4 := c_95; (try simp only [Int32.lt_iff_toInt_lt, Int32.le_iff_toInt_le, ← Int32.toInt_inj, L0, L1, L2, L3, L4, L6, L9, L500, L5, L7, L10, L12, L15, L16, L20, L63, L1000, L1023, L2000, L10000, L100000, Lm1] at z0 z1 z2 z3 z4); omega) (by have z0 := c_6; have z1 := c_49; have z2 := hsc_92; have z3 := hsc_94; have z4 := c_95; (try simp only [Int32.lt_iff_toInt_lt, Int32.le_iff_toInt_le, ← Int32.toInt_inj, L0, L1, L2, L3, L4, L6, L9, L500, L5, L7, L10, L12, L15, L16, L20, L63, L1000, L1023, L2000, L10000, L100000, Lm1] at z0 z1 z2 z3 z4); omega)
        refine va_iast hx hb hK hP (mD_of hD hAc) hS 73 0 at_73 rfl (kt_inN ex_105 (by omega) (by decide)) dX6_start_73 (fun H locs hP _ hS => ?_)
        obtain ⟨v_106, ev_106⟩ : ∃ z, z = mU v_93 73 (upd (v_93 73) ix_105 p0) := ⟨_, rfl⟩
        have hP : va_P (dC, dI) vwCl (mW cI cZ cS cC cJ a v_106) H := by rw [ev_106]; exact mW_put hP (by omega) (by rw [ex_105, nI_clamp (by omega)]; rfl)
        have hB := hB.put ev_106 (by decide)
        have hL := hL.put ev_106 (by decide)
        refine lv_aload_n hx hb dX6_start_74 rfl (lv_at hl 0 rfl) ?_
        refine va_get (D := (dC, dI)) (ci := 6) (v := .ref (a 74)) (C := RX6) (T := TX6) (N := 43) hx hb hts (fun w h => List.mem_cons_of_mem _ (inWX6 w h)) hown hK hP 45 at_45 rfl 37 (by decide) (hts _ (List.mem_cons_of_mem _ kw_t3_78)) (fun _ h9 => h9) rfl dX6_start_75 ?_
        refine lv_aload_n hx hb dX6_start_78 rfl (lv_at hl 0 rfl) ?_
        refine va_get (D := (dC, dI)) (ci := 6) (v := .int (v_106 45 4)) (C := RX6) (T := TX6) (N := 43) hx hb hts (fun w h => List.mem_cons_of_mem _ (inWX6 w h)) hown hK hP 45 at_45 rfl 4 (by decide) (hts _ (List.mem_cons_of_mem _ kw_t3_45)) (fun _ h9 => h9) rfl dX6_start_79 ?_
        refine lv_topi (fun t_107 et_107 => ?_)
        have hsc_107 : 0 ≤ t_107.toInt ∧ t_107.toInt ≤ gn := by rw [et_107]; exact hB.2.1
        refine lv_aload_n hx hb dX6_start_82 rfl (lv_at hl 0 rfl) ?_
        refine va_get (D := (dC, dI)) (ci := 6) (v := .ref (a 50)) (C := RX6) (T := TX6) (N := 43) hx hb hts (fun w h => List.mem_cons_of_mem _ (inWX6 w h)) hown hK hP 45 at_45 rfl 13 (by decide) (hts _ (List.mem_cons_of_mem _ kw_t3_54)) (fun _ h9 => h9) rfl dX6_start_83 ?_
        refine lv_iload_n hx hb dX6_start_86 rfl (lv_at hl 1 rfl) ?_
        refine va_iald hx hb hK hP 50 0 at_50 rfl (kt_inN ei0 (by omega) (by decide)) dX6_start_87 ?_
        refine lv_topi (fun t_108 et_108 => ?_)
        rw [ei0, nI_clamp (by omega)] at et_108
        obtain ⟨ix_110, hx_110, ex_110⟩ := kt_idx (x := t_107) (n := 500) (by have z0 := c_6; have z1 := c_49; have z2 := hsc_92; have z3 := hsc_94; have z4 := c_95; have z5 := hsc_107; (try simp only [Int32.lt_iff_toInt_lt, Int32.le_iff_toInt_le, ← Int32.toInt_inj, L0, L1, L2, L3, L4, L6, L9, L500, L5, L7, L10, L12, L15, L16, L20, L63, L1000, L1023, L2000, L10000, L100000, Lm1] at z0 z1 z2 z3 z4 z5); omega) (by have z0 := c_6; have z1 := c_49; have z2 := hsc_92; have z3 := hsc_94; have z4 := c_95; have z5 := hsc_107; (try simp only [Int32.lt_iff_toInt_lt, Int32.le_iff_toInt_le, ← Int32.toInt_inj, L0, L1, L2, L3, L4, L6, L9, L500, L5, L7, L10, L12, L15, L16, L20, L63, L1000, L1023, L2000, L10000, L100000, Lm1] at z0 z1 z2 z3 z4 z5); omega)
        refine va_iast hx hb hK hP (mD_of hD hAc) hS 74 0 at_74 rfl (kt_inN ex_110 (by omega) (by decide)) dX6_start_88 (fun H locs hP _ hS => ?_)
        obtain ⟨v_111, ev_111⟩ : ∃ z, z = mU v_106 74 (upd (v_106 74) ix_110 t_108) := ⟨_, rfl⟩
        have hP : va_P (dC, dI) vwCl (mW cI cZ cS cC cJ a v_111) H := by rw [ev_111]; exact mW_put hP (by omega) (by rw [ex_110, nI_clamp (by omega)]; rfl)
        have hB := hB.put ev_111 (by decide)
        have hL := hL.put ev_111 (by decide)
        refine lv_aload_n hx hb dX6_start_89 rfl (lv_at hl 0 rfl) ?_
        refine va_get (D := (dC, dI)) (ci := 6) (v := .ref (a 75)) (C := RX6) (T := TX6) (N := 43) hx hb hts (fun w h => List.mem_cons_of_mem _ (inWX6 w h)) hown hK hP 45 at_45 rfl 38 (by decide) (hts _ (List.mem_cons_of_mem _ kw_t3_79)) (fun _ h9 => h9) rfl dX6_start_90 ?_
        refine lv_aload_n hx hb dX6_start_93 rfl (lv_at hl 0 rfl) ?_
        refine va_get (D := (dC, dI)) (ci := 6) (v := .int (v_111 45 4)) (C := RX6) (T := TX6) (N := 43) hx hb hts (fun w h => List.mem_cons_of_mem _ (inWX6 w h)) hown hK hP 45 at_45 rfl 4 (by decide) (hts _ (List.mem_cons_of_mem _ kw_t3_45)) (fun _ h9 => h9) rfl dX6_start_94 ?_
        refine lv_topi (fun t_112 et_112 => ?_)
        have hsc_112 : 0 ≤ t_112.toInt ∧ t_112.toInt ≤ gn := by rw [et_112]; exact hB.2.1
        refine lv_aload_n hx hb dX6_start_97 rfl (lv_at hl 0 rfl) ?_
        refine va_get (D := (dC, dI)) (ci := 6) (v := .int (v_111 45 1)) (C := RX6) (T := TX6) (N := 43) hx hb hts (fun w h => List.mem_cons_of_mem _ (inWX6 w h)) hown hK hP 45 at_45 rfl 1 (by decide) (hts _ (List.mem_cons_of_mem _ kw_t3_42)) (fun _ h9 => h9) rfl dX6_start_98 ?_
        refine lv_topi (fun t_113 et_113 => ?_)
        obtain ⟨ix_115, hx_115, ex_115⟩ := kt_idx (x := t_112) (n := 500) (by have z0 := c_6; have z1 := c_49; have z2 := hsc_92; have z3 := hsc_94; have z4 := c_95; have z5 := hsc_107; have z6 := hsc_112; (try simp only [Int32.lt_iff_toInt_lt, Int32.le_iff_toInt_le, ← Int32.toInt_inj, L0, L1, L2, L3, L4, L6, L9, L500, L5, L7, L10, L12, L15, L16, L20, L63, L1000, L1023, L2000, L10000, L100000, Lm1] at z0 z1 z2 z3 z4 z5 z6); omega) (by have z0 := c_6; have z1 := c_49; have z2 := hsc_92; have z3 := hsc_94; have z4 := c_95; have z5 := hsc_107; have z6 := hsc_112; (try simp only [Int32.lt_iff_toInt_lt, Int32.le_iff_toInt_le, ← Int32.toInt_inj, L0, L1, L2, L3, L4, L6, L9, L500, L5, L7, L10, L12, L15, L16, L20, L63, L1000, L1023, L2000, L10000, L100000, Lm1] at z0 z1 z2 z3 z4 z5 z6); omega)
        refine va_iast hx hb hK hP (mD_of hD hAc) hS 75 0 at_75 rfl (kt_inN ex_115 (by omega) (by decide)) dX6_start_101 (fun H locs hP _ hS => ?_)
        obtain ⟨v_116, ev_116⟩ : ∃ z, z = mU v_111 75 (upd (v_111 75) ix_115 t_113) := ⟨_, rfl⟩
        have hP : va_P (dC, dI) vwCl (mW cI cZ cS cC cJ a v_116) H := by rw [ev_116]; exact mW_put hP (by omega) (by rw [ex_115, nI_clamp (by omega)]; rfl)
        have hB := hB.put ev_116 (by decide)
        have hL := hL.put ev_116 (by decide)
        refine lv_aload_n hx hb dX6_start_102 rfl (lv_at hl 0 rfl) ?_
        refine va_get (D := (dC, dI)) (ci := 6) (v := .ref (a 76)) (C := RX6) (T := TX6) (N := 43) hx hb hts (fun w h => List.mem_cons_of_mem _ (inWX6 w h)) hown hK hP 45 at_45 rfl 39 (by decide) (hts _ (List.mem_cons_of_mem _ kw_t3_80)) (fun _ h9 => h9) rfl dX6_start_103 ?_
        refine lv_aload_n hx hb dX6_start_106 rfl (lv_at hl 0 rfl) ?_
        refine va_get (D := (dC, dI)) (ci := 6) (v := .int (v_116 45 4)) (C := RX6) (T := TX6) (N := 43) hx hb hts (fun w h => List.mem_cons_of_mem _ (inWX6 w h)) hown hK hP 45 at_45 rfl 4 (by decide) (hts _ (List.mem_cons_of_mem _ kw_t3_45)) (fun _ h9 => h9) rfl dX6_start_107 ?_
        refine lv_topi (fun t_117 et_117 => ?_)
        have hsc_117 : 0 ≤ t_117.toInt ∧ t_117.toInt ≤ gn := by rw [et_117]; exact hB.2.1
        refine lv_iconst (v := (-1)) hx hb dX6_start_110 (by decide) ?_
        obtain ⟨ix_119, hx_119, ex_119⟩ := kt_idx (x := t_117) (n := 500) (by have z0 := c_6; have z1 := c_49; have z2 := hsc_92; have z3 := hsc_94; have z4 := c_95; have z5 := hsc_107; have z6 := hsc_112; have z7 := hsc_117; (try simp only [Int32.lt_iff_toInt_lt, Int32.le_iff_toInt_le, ← Int32.toInt_inj, L0, L1, L2, L3, L4, L6, L9, L500, L5, L7, L10, L12, L15, L16, L20, L63, L1000, L1023, L2000, L10000, L100000, Lm1] at z0 z1 z2 z3 z4 z5 z6 z7); omega) (by have z0 := c_6; have z1 := c_49; have z2 := hsc_92; have z3 := hsc_94; have z4 := c_95; have z5 := hsc_107; have z6 := hsc_112; have z7 := hsc_117; (try simp only [Int32.lt_iff_toInt_lt, Int32.le_iff_toInt_le, ← Int32.toInt_inj, L0, L1, L2, L3, L4, L6, L9, L500, L5, L7, L10, L12, L15, L16, L20, L63, L1000, L1023, L2000, L10000, L100000, Lm1] at z0 z1 z2 z3 z4 z5 z6 z7); omega)
        refine va_iast hx hb hK hP (mD_of hD hAc) hS 76 0 at_76 rfl (kt_inN ex_119 (by omega) (by decide)) dX6_start_111 (fun H locs hP _ hS => ?_)
        obtain ⟨v_120, ev_120⟩ : ∃ z, z = mU v_116 76 (upd (v_116 76) ix_119 (-1)) := ⟨_, rfl⟩
        have hP : va_P (dC, dI) vwCl (mW cI cZ cS cC cJ a v_120) H := by rw [ev_120]; exact mW_put hP (by omega) (by rw [ex_119, nI_clamp (by omega)]; rfl)
        have hB := hB.put ev_120 (by decide)
        have hL := hL.put ev_120 (by decide)
        refine lv_aload_n hx hb dX6_start_112 rfl (lv_at hl 0 rfl) ?_
        refine va_get (D := (dC, dI)) (ci := 6) (v := .ref (a 77)) (C := RX6) (T := TX6) (N := 43) hx hb hts (fun w h => List.mem_cons_of_mem _ (inWX6 w h)) hown hK hP 45 at_45 rfl 40 (by decide) (hts _ (List.mem_cons_of_mem _ kw_t3_81)) (fun _ h9 => h9) rfl dX6_start_113 ?_
        refine lv_aload_n hx hb dX6_start_116 rfl (lv_at hl 0 rfl) ?_
        refine va_get (D := (dC, dI)) (ci := 6) (v := .int (v_120 45 4)) (C := RX6) (T := TX6) (N := 43) hx hb hts (fun w h => List.mem_cons_of_mem _ (inWX6 w h)) hown hK hP 45 at_45 rfl 4 (by decide) (hts _ (List.mem_cons_of_mem _ kw_t3_45)) (fun _ h9 => h9) rfl dX6_start_117 ?_
        refine lv_topi (fun t_121 et_121 => ?_)
        have hsc_121 : 0 ≤ t_121.toInt ∧ t_121.toInt ≤ gn := by rw [et_121]; exact hB.2.1
        refine lv_iload_n hx hb dX6_start_120 rfl (lv_at hl 2 rfl) ?_
        obtain ⟨ix_123, hx_123, ex_123⟩ := kt_idx (x := t_121) (n := 500) (by have z0 := c_6; have z1 := c_49; have z2 := hsc_92; have z3 := hsc_94; have z4 := c_95; have z5 := hsc_107; have z6 := hsc_112; have z7 := hsc_117; have z8 := hsc_121; (try simp only [Int32.lt_iff_toInt_lt, Int32.le_iff_toInt_le, ← Int32.toInt_inj, L0, L1, L2, L3, L4, L6, L9, L500, L5, L7, L10, L12, L15, L16, L20, L63, L1000, L1023, L2000, L10000, L100000, Lm1] at z0 z1 z2 z3 z4 z5 z6 z7 z8); omega) (by have z0 := c_6; have z1 := c_49; have z2 := hsc_92; have z3 := hsc_94; have z4 := c_95; have z5 := hsc_107; have z6 := hsc_112; have z7 := hsc_117; have z8 := hsc_121; (try simp only [Int32.lt_iff_toInt_lt, Int32.le_iff_toInt_le, ← Int32.toInt_inj, L0, L1, L2, L3, L4, L6, L9, L500, L5, L7, L10, L12, L15, L16, L20, L63, L1000, L1023, L2000, L10000, L100000, Lm1] at z0 z1 z2 z3 z4 z5 z6 z7 z8); omega)
        refine va_zast hx hb hK hP (mD_of hD hAc) hS 77 1 at_77 rfl (kt_inN ex_123 (by omega) (by decide)) dX6_start_121 (fun H locs hP _ hS => ?_)
        obtain ⟨v_124, ev_124⟩ : ∃ z, z = mU v_120 77 (upd (v_120 77) ix_123 (vp_nar .boolean p1)) := ⟨_, rfl⟩
        have hP : va_P (dC, dI) vwCl (mW cI cZ cS cC cJ a v_124) H := by rw [ev_124]; exact mW_put hP (by omega) (by rw [ex_123, nI_clamp (by omega)]; rfl)
        have hB := hB.put ev_124 (by decide)
        have hL := hL.put ev_124 (by decide)
        refine lv_aload_n hx hb dX6_start_122 rfl (lv_at hl 0 rfl) ?_
        refine lv_dup hx hb dX6_start_123 rfl ?_
        refine va_get (D := (dC, dI)) (ci := 6) (v := .int (v_124 45 4)) (C := RX6) (T := TX6) (N := 43) hx hb hts (fun w h => List.mem_cons_of_mem _ (inWX6 w h)) hown hK hP 45 at_45 rfl 4 (by decide) (hts _ (List.mem_cons_of_mem _ kw_t3_45)) (fun _ h9 => h9) rfl dX6_start_124 ?_
        refine lv_topi (fun t_125 et_125 => ?_)
        have hsc_125 : 0 ≤ t_125.toInt ∧ t_125.toInt ≤ gn := by rw [et_125]; exact hB.2.1
        refine lv_iconst (v := 1) hx hb dX6_start_127 (by decide) ?_
        refine lv_iadd hx hb dX6_start_128 ?_
        refine lv_topi (fun t_126 et_126 => ?_)
        refine va_put (D := (dC, dI)) (ci := 6) (v := .int t_126) (ty := .int) (C := RX6) (T := TX6) (N := 43) hx hb hts (fun w h => List.mem_cons_of_mem _ (inWX6 w h)) tyX6 tyX6_ok nmX6 hown hK hP (mD_of hD hAc) hS 45 at_45 rfl 4 (by decide) (hts _ (List.mem_cons_of_mem _ kw_t3_45)) (fun _ h9 => h9) rfl (by decide +kernel) rfl rfl (Nat.le_of_ble_eq_true rfl) dX6_start_129 (fun H locs hP _ hS => ?_)
        obtain ⟨v_127, ev_127⟩ : ∃ z, z = mU v_124 45 (upd (v_124 45) 4 t_126) := ⟨_, rfl⟩
        have hP : va_P (dC, dI) vwCl (mW cI cZ cS cC cJ a v_127) H := by rw [ev_127]; exact mW_put hP (by omega) rfl
        have hy9 := kt_addI (x := t_125) (by omega) (by omega) et_126
        have hB := hB.putM (m := gn + 1) ev_127 (fun z => absurd z (by decide)) (by rw [if_pos rfl]; exact ⟨by omega, by omega⟩)
        have hL := hL.putM ev_127 (by decide)
        refine lv_aload_n hx hb dX6_start_132 rfl (lv_at hl 0 rfl) ?_
        refine lv_iload_n hx hb dX6_start_133 rfl (lv_at hl 1 rfl) ?_
        refine lv_aload_n hx hb dX6_start_134 rfl (lv_at hl 0 rfl) ?_
        refine va_get (D := (dC, dI)) (ci := 6) (v := .ref (a 46)) (C := RX6) (T := TX6) (N := 43) hx hb hts (fun w h => List.mem_cons_of_mem _ (inWX6 w h)) hown hK hP 45 at_45 rfl 9 (by decide) (hts _ (List.mem_cons_of_mem _ kw_t3_50)) (fun _ h9 => h9) rfl dX6_start_135 ?_
        refine lv_iload_n hx hb dX6_start_138 rfl (lv_at hl 1 rfl) ?_
        refine va_iald hx hb hK hP 46 0 at_46 rfl (kt_inN ei0 (by omega) (by decide)) dX6_start_139 ?_
        refine lv_topi (fun t_128 et_128 => ?_)
        rw [ei0, nI_clamp (by omega)] at et_128
        refine lv_if_ne (tgt := 147) hx hb dX6_start_140 (by decide) (fun c_129 => ?_) (fun c_129 => ?_)
        · refine lv_iconst (v := 5) hx hb dX6_start_147 (by decide) ?_
          have hFc := mA_free (a := a) hS hA hAc
          refine va_callv (va_runV (As := [.int p0, .int 5]) (rest := []) ⟨hx, hb, hml, hown, hts⟩ (c_X6_begins l dC dI cI cZ cS cC cJ a v_127 H.size p0 5 hD (gn + 1) (by omega) hB.self i0 (by omega) ei0 0 (rL.zero hL (rL.at0 hL hi0 (by rw [show v_127 52 = v 52 from (by rw [ev_127, mU_ne _ _ (by first | decide | omega), ev_124, mU_ne _ _ (by first | decide | omega), ev_120, mU_ne _ _ (by first | decide | omega), ev_116, mU_ne _ _ (by first | decide | omega), ev_111, mU_ne _ _ (by first | decide | omega), ev_106, mU_ne _ _ (by first | decide | omega), ev_93, mU_ne _ _ (by first | decide | omega), ev_91, mU_ne _ _ (by first | decide | omega), ev_5, mU_ne _ _ (by first | decide | omega), ev_3, mU_ne _ _ (by first | decide | omega)])]; exact h0))) (Or.inl ⟨rfl, by decide⟩)) (cwV 2 hts (gV (fun w h => List.mem_cons_of_mem _ h) kw_t3_236 kw_t3_238 kw_s0_19 kw_t1_7 kw_t3_239) rfl rfl rfl (by decide +kernel) ⟨Nat.le_of_ble_eq_true rfl, Nat.le_of_ble_eq_true rfl⟩) ⟨fun av U g mk q => by obtain ⟨q0, q1, qP, qK, qN⟩ := q; exact ⟨q0, q1, qP, va_K.moved (u := U) (U := U.calling g mk av) (Vm.Alike.refl U.vm) qK, mN_same qN⟩, va_recv hK hP (ci := 6) (q0 := 45) rfl at_45, fun U hU hW => ⟨rfl, by rw [hU], by rw [hU]; exact hP, va_K.moved hW.alike hK, mN_warm hW hN⟩⟩ rfl rfl hl.1 rfl (lv_room (Nat.le_of_ble_eq_true rfl)) dX6_start_148 ⟨Nat.le_of_ble_eq_true rfl, Nat.le_of_ble_eq_true rfl⟩) hS (fun q _ h => hFc q h) hFc (fun v_130 t H locs ht hvm hw_130 hP _ _ hS => ?_)
          have hP := kt_heap2 ht hP
          clear ht hFc
          have hP : va_P (dC, dI) vwCl (mW cI cZ cS cC cJ a v_130) H := hP
          have hB := hB.trans hw_130.1
          have hL := hw_130.2.1
          exact W.vret hx hb hr (fun t ht hW => ⟨⟨v_130, rfl, ⟨hB, hL⟩, kt_heap ht hP⟩, hS.F ht⟩) hS.2.2 dX6_start_151
        · refine lv_iconst (v := 1) hx hb dX6_start_143 (by decide) ?_
          refine lv_goto (tgt := 148) hx hb dX6_start_144 (by decide) ?_
          have hFc := mA_free (a := a) hS hA hAc
          refine va_callv (va_runV (As := [.int p0, .int 1]) (rest := []) ⟨hx, hb, hml, hown, hts⟩ (c_X6_begins l dC dI cI cZ cS cC cJ a v_127 H.size p0 1 hD (gn + 1) (by omega) hB.self i0 (by omega) ei0 0 (rL.zero hL (rL.at0 hL hi0 (by rw [show v_127 52 = v 52 from (by rw [ev_127, mU_ne _ _ (by first | decide | omega), ev_124, mU_ne _ _ (by first | decide | omega), ev_120, mU_ne _ _ (by first | decide | omega), ev_116, mU_ne _ _ (by first | decide | omega), ev_111, mU_ne _ _ (by first | decide | omega), ev_106, mU_ne _ _ (by first | decide | omega), ev_93, mU_ne _ _ (by first | decide | omega), ev_91, mU_ne _ _ (by first | decide | omega), ev_5, mU_ne _ _ (by first | decide | omega), ev_3, mU_ne _ _ (by first | decide | omega)])]; exact h0))) (Or.inl ⟨rfl, by decide⟩)) (cwV 2 hts (gV (fun w h => List.mem_cons_of_mem _ h) kw_t3_236 kw_t3_238 kw_s0_19 kw_t1_7 kw_t3_239) rfl rfl rfl (by decide +kernel) ⟨Nat.le_of_ble_eq_true rfl, Nat.le_of_ble_eq_true rfl⟩) ⟨fun av U g mk q => by obtain ⟨q0, q1, qP, qK, qN⟩ := q; exact ⟨q0, q1, qP, va_K.moved (u := U) (U := U.calling g mk av) (Vm.Alike.refl U.vm) qK, mN_same qN⟩, va_recv hK hP (ci := 6) (q0 := 45) rfl at_45, fun U hU hW => ⟨rfl, by rw [hU], by rw [hU]; exact hP, va_K.moved hW.alike hK, mN_warm hW hN⟩⟩ rfl rfl hl.1 rfl (lv_room (Nat.le_of_ble_eq_true rfl)) dX6_start_148 ⟨Nat.le_of_ble_eq_true rfl, Nat.le_of_ble_eq_true rfl⟩) hS (fun q _ h => hFc q h) hFc (fun v_131 t H locs ht hvm hw_131 hP _ _ hS => ?_)
          have hP := kt_heap2 ht hP
          clear ht hFc
          have hP : va_P (dC, dI) vwCl (mW cI cZ cS cC cJ a v_131) H := hP
          have hB := hB.trans hw_131.1
          have hL := hw_131.2.1
          exact W.vret hx hb hr (fun t ht hW => ⟨⟨v_131, rfl, ⟨hB, hL⟩, kt_heap ht hP⟩, hS.F ht⟩) hS.2.2 dX6_start_151
