set_option maxHeartbeats 4000000 in
set_option maxRecDepth 100000 in
theorem c_X6_secret (l : Launch) (dC : Nat → ClassId) (dI : Nat → Nat → Nat) (cI cZ cS cC cJ : ClassId) (a : Nat → Nat) (v : Nat → Nat → Int32) (sz : Nat) (p0 p1 p2 p3 : Int32) (hD : mDD a) (gn : Nat) (hn : gn < 200000) (hB : rB gn v v) (hL : rL v) : Met l yX6_secret (Cond.code yX6_secret cX6_secret 7 (some .int) :: WW) ({ frames := 1, cells := 0, slots := 0, locals := 30 }) (va_Pc [.ref (a 45), .int p0, .int p1, .int p2, .int p3] (fun U => U.heap.size = sz ∧ va_P (dC, dI) vwCl (mW cI cZ cS cC cJ a v) U.heap ∧ va_K (dC, dI) vwCl [(cI, .int), (cZ, .boolean), (cS, .object RX3), (cC, .object RX0), (cJ, .long)] U ∧ mN U)) (va_Qi (fun (r : Int32) (u : Nat → Nat → Int32) => (rC gn v u) ∧ (rL u) ∧ (r = sp_sec p0 p1 p2 p3 (v 45 2) ∧ u 45 2 = sn_sec p0 p1 p2 p3 (v 45 2) ∧ u 45 1 = v 45 1 ∧ u 60 = v 60)) (fun (u : Nat → Nat → Int32) (t : State) => va_P (dC, dI) vwCl (mW cI cZ cS cC cJ a u) t.heap) (mA a sz)) 0 0 (mA a sz) := by
  refine Met.ofW (cc := cX6_secret) (maxL := 7) (ret := (some .int)) (by decide) rfl ?_
  intro p e s m args below meth c s₁ B hml hv
  obtain ⟨rfl, hsz, hP, hK, hN⟩ := hv
  have hx := B.exec
  have hb := B.bytes
  have hr := B.returns
  have hts := atoms_spec (ws := Cond.code yX6_secret cX6_secret 7 (some .int) :: WW) B.pre
  have hown : s.vm.findClass RX6 = some m.cls := findClass_of_methodNamed B.named
  have hlocks := B.notSynchronized
  subst hsz
  have hAc : ∀ c, c < 81 → mA a s.heap.size (a c) := fun c h => Or.inl ⟨c, h, rfl⟩
  have hA : ∀ q : Nat, s.heap.size ≤ q → mA a s.heap.size q := fun q h => Or.inr h
  generalize hAe : mA a s.heap.size = A at hAc hA ⊢
  have hS : va_S A s.heap s.heap [] := va_S.rf
  have hl := lv_entry ([.ref (a 45), .int p0, .int p1, .int p2, .int p3]) (n := 7) (Nat.le_of_ble_eq_true rfl)
  rw [lg_entry_eq]
  generalize (lg_sl ([.ref (a 45), .int p0, .int p1, .int p2, .int p3]) ++ List.replicate (7 - (lg_sl ([.ref (a 45), .int p0, .int p1, .int p2, .int p3])).length) Slot.unset).toArray = ls at hl ⊢
  have hl : lv_has ls 7 [(0, .ref (a 45)), (1, .int p0), (2, .int p1), (3, .int p2), (4, .int p3)] := hl
  have hB := hB.toC
  refine kt_absQ (fun Q hQ9 => ?_)
  refine lv_aload_n hx hb dX6_secret_0 rfl (lv_at hl 0 rfl) ?_
  refine lv_iconst (v := 0) hx hb dX6_secret_1 (by decide) ?_
  refine va_put (D := (dC, dI)) (ci := 6) (v := .int 0) (ty := .int) (C := RX6) (T := TX6) (N := 43) hx hb hts (fun w h => List.mem_cons_of_mem _ (inWX6 w h)) tyX6 tyX6_ok nmX6 hown hK hP (mD_of hD hAc) hS 45 at_45 rfl 0 (by decide) (hts _ (List.mem_cons_of_mem _ kw_t3_41)) (fun _ h9 => h9) rfl (by decide +kernel) rfl rfl (Nat.le_of_ble_eq_true rfl) dX6_secret_2 (fun H locs hP _ hS => ?_)
  obtain ⟨v_1, ev_1⟩ : ∃ z, z = mU v 45 (upd (v 45) 0 0) := ⟨_, rfl⟩
  have hP : va_P (dC, dI) vwCl (mW cI cZ cS cC cJ a v_1) H := by rw [ev_1]; exact mW_put hP (by omega) rfl
  have hB := hB.putO ev_1 (by decide)
  have hL := hL.putM ev_1 (by decide)
  refine lv_aload_n hx hb dX6_secret_5 rfl (lv_at hl 0 rfl) ?_
  refine va_get (D := (dC, dI)) (ci := 6) (v := .int (v_1 45 2)) (C := RX6) (T := TX6) (N := 43) hx hb hts (fun w h => List.mem_cons_of_mem _ (inWX6 w h)) hown hK hP 45 at_45 rfl 2 (by decide) (hts _ (List.mem_cons_of_mem _ kw_t3_43)) (fun _ h9 => h9) rfl dX6_secret_6 ?_
  refine lv_topi (fun t_2 et_2 => ?_)
  have hsc_2 : 0 ≤ t_2.toInt ∧ t_2.toInt ≤ 12 := by rw [et_2]; exact hB.sc
  refine lv_bipush (v := 12) hx hb dX6_secret_9 (by decide) ?_
  refine lv_icmp_eq (tgt := 56) hx hb dX6_secret_11 (by decide) (fun c_3 => ?_) (fun c_3 => ?_)
  · refine lv_iconst (v := (-1)) hx hb dX6_secret_56 (by decide) ?_
    rw [hQ9]
    exact W.iret (v := (-1)) hx hb hr (fun t ht hW => ⟨⟨(-1), v_1, rfl, ⟨hB, hL, ⟨by rw [sp_sec, if_pos (by unfold sp_bad; rw [← (show t_2 = v 45 2 from et_2.trans (by rw [ev_1, mU_self]; rfl))]; have z0 := c_3; have z1 := hsc_2; (try simp only [Int32.lt_iff_toInt_lt, Int32.le_iff_toInt_le, ← Int32.toInt_inj, L0, L1, L2, L3, L4, L6, L9, L500, L5, L7, L10, L12, L15, L16, L20, L63, L1000, L1023, L2000, L10000, L100000, Lm1] at z0 z1 ⊢); omega)], by rw [sn_sec, if_pos (by unfold sp_bad; rw [← (show t_2 = v 45 2 from et_2.trans (by rw [ev_1, mU_self]; rfl))]; have z0 := c_3; have z1 := hsc_2; (try simp only [Int32.lt_iff_toInt_lt, Int32.le_iff_toInt_le, ← Int32.toInt_inj, L0, L1, L2, L3, L4, L6, L9, L500, L5, L7, L10, L12, L15, L16, L20, L63, L1000, L1023, L2000, L10000, L100000, Lm1] at z0 z1 ⊢); omega), ev_1, mU_self]; rfl, by rw [ev_1, mU_self]; rfl, (by rw [ev_1, mU_ne _ _ (by first | decide | omega)])⟩⟩, kt_heap ht hP⟩, hS.F ht⟩) hS.2.2 dX6_secret_57
  · refine lv_iload_n hx hb dX6_secret_14 rfl (lv_at hl 1 rfl) ?_
    refine lv_iconst (v := 0) hx hb dX6_secret_15 (by decide) ?_
    refine lv_iconst (v := 1) hx hb dX6_secret_16 (by decide) ?_
    have hFc := mA_free (a := a) hS hA hAc
    refine va_calli (va_runS (As := [.int p0, .int 0, .int 1]) (rest := []) ⟨hx, hb, hml, hown, hts⟩ (c_X6_isIn l dC dI cI cZ cS cC cJ a v_1 H.size p0 0 1 hD gn (by omega) hB.self) (va_cwS 3 hts (gS (fun w h => List.mem_cons_of_mem _ h) kw_t3_176 kw_t3_177 kw_t1_7 kw_t3_178) rfl rfl rfl (by decide +kernel) ⟨Nat.le_of_ble_eq_true rfl, Nat.le_of_ble_eq_true rfl⟩) ⟨fun av U g mk q => by obtain ⟨q0, q1, qP, qK, qN⟩ := q; exact ⟨q0, q1, qP, va_K.moved (u := U) (U := U.calling g mk av) (Vm.Alike.refl U.vm) qK, mN_same qN⟩, fun U hU hW => ⟨rfl, by rw [hU], by rw [hU]; exact hP, va_K.moved hW.alike hK, mN_warm hW hN⟩⟩ rfl rfl hl.1 rfl (lv_room (Nat.le_of_ble_eq_true rfl)) dX6_secret_17 ⟨Nat.le_of_ble_eq_true rfl, Nat.le_of_ble_eq_true rfl⟩) hS (fun q _ h => hFc q h) hFc (fun r_4 _ t H locs ht hvm hw_4 hP _ _ hS => ?_)
    have hP := kt_heap2 ht hP
    clear ht hFc
    have hP : va_P (dC, dI) vwCl (mW cI cZ cS cC cJ a v_1) H := hP
    rcases hw_4 with ⟨hz_5, c_5a, c_5b⟩ | ⟨hz_5, c_5d⟩
    · subst hz_5
      refine lv_if_eq (tgt := 56) hx hb dX6_secret_20 (by decide) (fun c_6 => absurd c_6 (by decide)) (fun c_6 => ?_)
      refine lv_iload_n hx hb dX6_secret_23 rfl (lv_at hl 2 rfl) ?_
      refine lv_iconst (v := 0) hx hb dX6_secret_24 (by decide) ?_
      refine lv_sipush (v := 1023) hx hb dX6_secret_25 (by decide) ?_
      have hFc := mA_free (a := a) hS hA hAc
      refine va_calli (va_runS (As := [.int p1, .int 0, .int 1023]) (rest := []) ⟨hx, hb, hml, hown, hts⟩ (c_X6_isIn l dC dI cI cZ cS cC cJ a v_1 H.size p1 0 1023 hD gn (by omega) hB.self) (va_cwS 3 hts (gS (fun w h => List.mem_cons_of_mem _ h) kw_t3_176 kw_t3_177 kw_t1_7 kw_t3_178) rfl rfl rfl (by decide +kernel) ⟨Nat.le_of_ble_eq_true rfl, Nat.le_of_ble_eq_true rfl⟩) ⟨fun av U g mk q => by obtain ⟨q0, q1, qP, qK, qN⟩ := q; exact ⟨q0, q1, qP, va_K.moved (u := U) (U := U.calling g mk av) (Vm.Alike.refl U.vm) qK, mN_same qN⟩, fun U hU hW => ⟨rfl, by rw [hU], by rw [hU]; exact hP, va_K.moved hW.alike hK, mN_warm hW hN⟩⟩ rfl rfl hl.1 rfl (lv_room (Nat.le_of_ble_eq_true rfl)) dX6_secret_28 ⟨Nat.le_of_ble_eq_true rfl, Nat.le_of_ble_eq_true rfl⟩) hS (fun q _ h => hFc q h) hFc (fun r_7 _ t H locs ht hvm hw_7 hP _ _ hS => ?_)
      have hP := kt_heap2 ht hP
      clear ht hFc
      have hP : va_P (dC, dI) vwCl (mW cI cZ cS cC cJ a v_1) H := hP
      rcases hw_7 with ⟨hz_8, c_8a, c_8b⟩ | ⟨hz_8, c_8d⟩
      · subst hz_8
        refine lv_if_eq (tgt := 56) hx hb dX6_secret_31 (by decide) (fun c_9 => absurd c_9 (by decide)) (fun c_9 => ?_)
        refine lv_iload_n hx hb dX6_secret_34 rfl (lv_at hl 3 rfl) ?_
        refine lv_iconst (v := 1) hx hb dX6_secret_35 (by decide) ?_
        refine lv_bipush (v := 63) hx hb dX6_secret_36 (by decide) ?_
        have hFc := mA_free (a := a) hS hA hAc
        refine va_calli (va_runS (As := [.int p2, .int 1, .int 63]) (rest := []) ⟨hx, hb, hml, hown, hts⟩ (c_X6_isIn l dC dI cI cZ cS cC cJ a v_1 H.size p2 1 63 hD gn (by omega) hB.self) (va_cwS 3 hts (gS (fun w h => List.mem_cons_of_mem _ h) kw_t3_176 kw_t3_177 kw_t1_7 kw_t3_178) rfl rfl rfl (by decide +kernel) ⟨Nat.le_of_ble_eq_true rfl, Nat.le_of_ble_eq_true rfl⟩) ⟨fun av U g mk q => by obtain ⟨q0, q1, qP, qK, qN⟩ := q; exact ⟨q0, q1, qP, va_K.moved (u := U) (U := U.calling g mk av) (Vm.Alike.refl U.vm) qK, mN_same qN⟩, fun U hU hW => ⟨rfl, by rw [hU], by rw [hU]; exact hP, va_K.moved hW.alike hK, mN_warm hW hN⟩⟩ rfl rfl hl.1 rfl (lv_room (Nat.le_of_ble_eq_true rfl)) dX6_secret_38 ⟨Nat.le_of_ble_eq_true rfl, Nat.le_of_ble_eq_true rfl⟩) hS (fun q _ h => hFc q h) hFc (fun r_10 _ t H locs ht hvm hw_10 hP _ _ hS => ?_)
        have hP := kt_heap2 ht hP
        clear ht hFc
        have hP : va_P (dC, dI) vwCl (mW cI cZ cS cC cJ a v_1) H := hP
        rcases hw_10 with ⟨hz_11, c_11a, c_11b⟩ | ⟨hz_11, c_11d⟩
        · subst hz_11
          refine lv_if_eq (tgt := 56) hx hb dX6_secret_41 (by decide) (fun c_12 => absurd c_12 (by decide)) (fun c_12 => ?_)
          refine lv_iload hx hb dX6_secret_44 (lv_at hl 4 rfl) ?_
          refine lv_iconst (v := 1) hx hb dX6_secret_46 (by decide) ?_
          refine lv_sipush (v := 10000) hx hb dX6_secret_47 (by decide) ?_
          have hFc := mA_free (a := a) hS hA hAc
          refine va_calli (va_runS (As := [.int p3, .int 1, .int 10000]) (rest := []) ⟨hx, hb, hml, hown, hts⟩ (c_X6_isIn l dC dI cI cZ cS cC cJ a v_1 H.size p3 1 10000 hD gn (by omega) hB.self) (va_cwS 3 hts (gS (fun w h => List.mem_cons_of_mem _ h) kw_t3_176 kw_t3_177 kw_t1_7 kw_t3_178) rfl rfl rfl (by decide +kernel) ⟨Nat.le_of_ble_eq_true rfl, Nat.le_of_ble_eq_true rfl⟩) ⟨fun av U g mk q => by obtain ⟨q0, q1, qP, qK, qN⟩ := q; exact ⟨q0, q1, qP, va_K.moved (u := U) (U := U.calling g mk av) (Vm.Alike.refl U.vm) qK, mN_same qN⟩, fun U hU hW => ⟨rfl, by rw [hU], by rw [hU]; exact hP, va_K.moved hW.alike hK, mN_warm hW hN⟩⟩ rfl rfl hl.1 rfl (lv_room (Nat.le_of_ble_eq_true rfl)) dX6_secret_50 ⟨Nat.le_of_ble_eq_true rfl, Nat.le_of_ble_eq_true rfl⟩) hS (fun q _ h => hFc q h) hFc (fun r_13 _ t H locs ht hvm hw_13 hP _ _ hS => ?_)
          have hP := kt_heap2 ht hP
          clear ht hFc
          have hP : va_P (dC, dI) vwCl (mW cI cZ cS cC cJ a v_1) H := hP
          rcases hw_13 with ⟨hz_14, c_14a, c_14b⟩ | ⟨hz_14, c_14d⟩
          · subst hz_14
            refine lv_if_ne (tgt := 58) hx hb dX6_secret_53 (by decide) (fun c_15 => ?_) (fun c_15 => absurd c_15 (by decide))
            refine lv_aload_n hx hb dX6_secret_58 rfl (lv_at hl 0 rfl) ?_
            refine va_get (D := (dC, dI)) (ci := 6) (v := .int (v_1 45 2)) (C := RX6) (T := TX6) (N := 43) hx hb hts (fun w h => List.mem_cons_of_mem _ (inWX6 w h)) hown hK hP 45 at_45 rfl 2 (by decide) (hts _ (List.mem_cons_of_mem _ kw_t3_43)) (fun _ h9 => h9) rfl dX6_secret_59 ?_
            refine lv_topi (fun t_16 et_16 => ?_)
            obtain rfl : t_2 = t_16 := et_2.trans et_16.symm
            refine lv_istore (lv' := [(5, .int t_2), (0, .ref (a 45)), (1, .int p0), (2, .int p1), (3, .int p2), (4, .int p3)]) hx hb dX6_secret_62 hl (by decide) rfl (fun ls hl => ?_)
            refine lv_aload_n hx hb dX6_secret_64 rfl (lv_at hl 1 rfl) ?_
            refine va_get (D := (dC, dI)) (ci := 6) (v := .ref (a 46)) (C := RX6) (T := TX6) (N := 43) hx hb hts (fun w h => List.mem_cons_of_mem _ (inWX6 w h)) hown hK hP 45 at_45 rfl 9 (by decide) (hts _ (List.mem_cons_of_mem _ kw_t3_50)) (fun _ h9 => h9) rfl dX6_secret_65 ?_
            refine lv_iload hx hb dX6_secret_68 (lv_at hl 0 rfl) ?_
            refine lv_iload_n hx hb dX6_secret_70 rfl (lv_at hl 2 rfl) ?_
            obtain ⟨ix_18, hx_18, ex_18⟩ := kt_idx (x := t_2) (n := 12) (by have z0 := c_3; have z1 := c_5a; have z2 := c_5b; have z3 := c_8a; have z4 := c_8b; have z5 := c_11a; have z6 := c_11b; have z7 := c_14a; have z8 := c_14b; have z9 := hsc_2; (try simp only [Int32.lt_iff_toInt_lt, Int32.le_iff_toInt_le, ← Int32.toInt_inj, L0, L1, L2, L3, L4, L6, L9, L500, L5, L7, L10, L12, L15, L16, L20, L63, L1000, L1023, L2000, L10000, L100000, Lm1] at z0 z1 z2 z3 z4 z5 z6 z7 z8 z9); omega) (by have z0 := c_3; have z1 := c_5a; have z2 := c_5b; have z3 := c_8a; have z4 := c_8b; have z5 := c_11a; have z6 := c_11b; have z7 := c_14a; have z8 := c_14b; have z9 := hsc_2; (try simp only [Int32.lt_iff_toInt_lt, Int32.le_iff_toInt_le, ← Int32.toInt_inj, L0, L1, L2, L3, L4, L6, L9, L500, L5, L7, L10, L12, L15, L16, L20, L63, L1000, L1023, L2000, L10000, L100000, Lm1] at z0 z1 z2 z3 z4 z5 z6 z7 z8 z9); omega)
            refine va_iast hx hb hK hP (mD_of hD hAc) hS 46 0 at_46 rfl (kt_inN ex_18 (by omega) (by decide)) dX6_secret_71 (fun H locs hP _ hS => ?_)
            obtain ⟨v_19, ev_19⟩ : ∃ z, z = mU v_1 46 (upd (v_1 46) ix_18 p0) := ⟨_, rfl⟩
            have hP : va_P (dC, dI) vwCl (mW cI cZ cS cC cJ a v_19) H := by rw [ev_19]; exact mW_put hP (by omega) (by rw [ex_18, nI_clamp (by omega)]; rfl)
            have hB := hB.put ev_19 (by decide)
            have hL := hL.put ev_19 (by decide)
            refine lv_aload_n hx hb dX6_secret_72 rfl (lv_at hl 1 rfl) ?_
            refine va_get (D := (dC, dI)) (ci := 6) (v := .ref (a 47)) (C := RX6) (T := TX6) (N := 43) hx hb hts (fun w h => List.mem_cons_of_mem _ (inWX6 w h)) hown hK hP 45 at_45 rfl 10 (by decide) (hts _ (List.mem_cons_of_mem _ kw_t3_51)) (fun _ h9 => h9) rfl dX6_secret_73 ?_
            refine lv_iload hx hb dX6_secret_76 (lv_at hl 0 rfl) ?_
            refine lv_iload_n hx hb dX6_secret_78 rfl (lv_at hl 3 rfl) ?_
            refine va_iast hx hb hK hP (mD_of hD hAc) hS 47 0 at_47 rfl (kt_inN ex_18 (by omega) (by decide)) dX6_secret_79 (fun H locs hP _ hS => ?_)
            obtain ⟨v_20, ev_20⟩ : ∃ z, z = mU v_19 47 (upd (v_19 47) ix_18 p1) := ⟨_, rfl⟩
            have hP : va_P (dC, dI) vwCl (mW cI cZ cS cC cJ a v_20) H := by rw [ev_20]; exact mW_put hP (by omega) (by rw [ex_18, nI_clamp (by omega)]; rfl)
            have hB := hB.put ev_20 (by decide)
            have hL := hL.put ev_20 (by decide)
            refine lv_aload_n hx hb dX6_secret_80 rfl (lv_at hl 1 rfl) ?_
            refine va_get (D := (dC, dI)) (ci := 6) (v := .ref (a 48)) (C := RX6) (T := TX6) (N := 43) hx hb hts (fun w h => List.mem_cons_of_mem _ (inWX6 w h)) hown hK hP 45 at_45 rfl 11 (by decide) (hts _ (List.mem_cons_of_mem _ kw_t3_52)) (fun _ h9 => h9) rfl dX6_secret_81 ?_
            refine lv_iload hx hb dX6_secret_84 (lv_at hl 0 rfl) ?_
            refine lv_iload_n hx hb dX6_secret_86 rfl (lv_at hl 4 rfl) ?_
            refine va_iast hx hb hK hP (mD_of hD hAc) hS 48 0 at_48 rfl (kt_inN ex_18 (by omega) (by decide)) dX6_secret_87 (fun H locs hP _ hS => ?_)
            obtain ⟨v_21, ev_21⟩ : ∃ z, z = mU v_20 48 (upd (v_20 48) ix_18 p2) := ⟨_, rfl⟩
            have hP : va_P (dC, dI) vwCl (mW cI cZ cS cC cJ a v_21) H := by rw [ev_21]; exact mW_put hP (by omega) (by rw [ex_18, nI_clamp (by omega)]; rfl)
            have hB := hB.put ev_21 (by decide)
            have hL := hL.put ev_21 (by decide)
            refine lv_aload_n hx hb dX6_secret_88 rfl (lv_at hl 1 rfl) ?_
            refine va_get (D := (dC, dI)) (ci := 6) (v := .ref (a 49)) (C := RX6) (T := TX6) (N := 43) hx hb hts (fun w h => List.mem_cons_of_mem _ (inWX6 w h)) hown hK hP 45 at_45 rfl 12 (by decide) (hts _ (List.mem_cons_of_mem _ kw_t3_53)) (fun _ h9 => h9) rfl dX6_secret_89 ?_
            refine lv_iload hx hb dX6_secret_92 (lv_at hl 0 rfl) ?_
            refine lv_iload hx hb dX6_secret_94 (lv_at hl 5 rfl) ?_
            refine va_iast hx hb hK hP (mD_of hD hAc) hS 49 0 at_49 rfl (kt_inN ex_18 (by omega) (by decide)) dX6_secret_96 (fun H locs hP _ hS => ?_)
            obtain ⟨v_22, ev_22⟩ : ∃ z, z = mU v_21 49 (upd (v_21 49) ix_18 p3) := ⟨_, rfl⟩
            have hP : va_P (dC, dI) vwCl (mW cI cZ cS cC cJ a v_22) H := by rw [ev_22]; exact mW_put hP (by omega) (by rw [ex_18, nI_clamp (by omega)]; rfl)
            have hB := hB.put ev_22 (by decide)
            have hL := hL.put ev_22 (by decide)
            refine lv_aload_n hx hb dX6_secret_97 rfl (lv_at hl 1 rfl) ?_
            refine va_get (D := (dC, dI)) (ci := 6) (v := .ref (a 51)) (C := RX6) (T := TX6) (N := 43) hx hb hts (fun w h => List.mem_cons_of_mem _ (inWX6 w h)) hown hK hP 45 at_45 rfl 14 (by decide) (hts _ (List.mem_cons_of_mem _ kw_t3_55)) (fun _ h9 => h9) rfl dX6_secret_98 ?_
            refine lv_iload hx hb dX6_secret_101 (lv_at hl 0 rfl) ?_
            refine lv_aload_n hx hb dX6_secret_103 rfl (lv_at hl 1 rfl) ?_
            refine va_get (D := (dC, dI)) (ci := 6) (v := .int (v_22 45 1)) (C := RX6) (T := TX6) (N := 43) hx hb hts (fun w h => List.mem_cons_of_mem _ (inWX6 w h)) hown hK hP 45 at_45 rfl 1 (by decide) (hts _ (List.mem_cons_of_mem _ kw_t3_42)) (fun _ h9 => h9) rfl dX6_secret_104 ?_
            refine lv_topi (fun t_23 et_23 => ?_)
            refine va_iast hx hb hK hP (mD_of hD hAc) hS 51 0 at_51 rfl (kt_inN ex_18 (by omega) (by decide)) dX6_secret_107 (fun H locs hP _ hS => ?_)
            obtain ⟨v_24, ev_24⟩ : ∃ z, z = mU v_22 51 (upd (v_22 51) ix_18 t_23) := ⟨_, rfl⟩
            have hP : va_P (dC, dI) vwCl (mW cI cZ cS cC cJ a v_24) H := by rw [ev_24]; exact mW_put hP (by omega) (by rw [ex_18, nI_clamp (by omega)]; rfl)
            have hB := hB.put ev_24 (by decide)
            have hL := hL.put ev_24 (by decide)
            refine lv_iconst (v := 0) hx hb dX6_secret_108 (by decide) ?_
            refine lv_istore (lv' := [(6, .int 0), (5, .int t_2), (0, .ref (a 45)), (1, .int p0), (2, .int p1), (3, .int p2), (4, .int p3)]) hx hb dX6_secret_109 hl (by decide) rfl (fun ls hl => ?_)
            have key1 : ∀ (n i1 : Nat) (k1 : Int32) (w1 : Nat → Nat → Int32) (H : Heap) (locs : List Loc) (ls : Array Slot), i1 ≤ 6 → 6 - i1 < n → k1 = nI i1 → va_P (dC, dI) vwCl (mW cI cZ cS cC cJ a w1) H → va_S A s.heap H locs → lv_has ls 7 [(6, .int k1), (5, .int t_2), (0, .ref (a 45)), (1, .int p0), (2, .int p1), (3, .int p2), (4, .int p3)] → rC gn v w1 → rL w1 → (w1 45 = v_24 45 ∧ w1 60 = v_24 60) → W p l e (headSpec (Cond.code yX6_secret cX6_secret 7 (some .int) :: WW) ({ frames := 1, cells := 0, slots := 0, locals := 30 })).room s m ([.ref (a 45), .int p0, .int p1, .int p2, .int p3] : List Value).toArray below meth c H locs 0 0 Q (F0 m 111 ls []) := by
              intro n
              induction n with
              | zero => intro i k w1 H locs ls h1 h2; exact absurd h2 (by omega)
              | succ n ih1 =>
                intro i1 k1 w1 H locs ls hi1 hin1 ek1 hP hS hl hB hL hJ1
                obtain ⟨hJ1, hJ60⟩ := hJ1
                refine lv_iload hx hb dX6_secret_111 (lv_at hl 0 rfl) ?_
                refine lv_bipush (v := 6) hx hb dX6_secret_113 (by decide) ?_
                refine lv_icmp_ge (tgt := 169) hx hb dX6_secret_115 (by decide) (fun c_25 => ?_) (fun c_25 => ?_)
                · refine lv_aload_n hx hb dX6_secret_169 rfl (lv_at hl 2 rfl) ?_
                  refine lv_dup hx hb dX6_secret_170 rfl ?_
                  refine va_get (D := (dC, dI)) (ci := 6) (v := .int (w1 45 2)) (C := RX6) (T := TX6) (N := 43) hx hb hts (fun w h => List.mem_cons_of_mem _ (inWX6 w h)) hown hK hP 45 at_45 rfl 2 (by decide) (hts _ (List.mem_cons_of_mem _ kw_t3_43)) (fun _ h9 => h9) rfl dX6_secret_171 ?_
                  refine lv_topi (fun t_26 et_26 => ?_)
                  have hsc_26 : 0 ≤ t_26.toInt ∧ t_26.toInt ≤ 12 := by rw [et_26]; exact hB.sc
                  refine lv_iconst (v := 1) hx hb dX6_secret_174 (by decide) ?_
                  refine lv_iadd hx hb dX6_secret_175 ?_
                  refine lv_topi (fun t_27 et_27 => ?_)
                  refine va_put (D := (dC, dI)) (ci := 6) (v := .int t_27) (ty := .int) (C := RX6) (T := TX6) (N := 43) hx hb hts (fun w h => List.mem_cons_of_mem _ (inWX6 w h)) tyX6 tyX6_ok nmX6 hown hK hP (mD_of hD hAc) hS 45 at_45 rfl 2 (by decide) (hts _ (List.mem_cons_of_mem _ kw_t3_43)) (fun _ h9 => h9) rfl (by decide +kernel) rfl rfl (Nat.le_of_ble_eq_true rfl) dX6_secret_176 (fun H locs hP _ hS => ?_)
                  obtain ⟨v_28, ev_28⟩ : ∃ z, z = mU w1 45 (upd (w1 45) 2 t_27) := ⟨_, rfl⟩
                  have hP : va_P (dC, dI) vwCl (mW cI cZ cS cC cJ a v_28) H := by rw [ev_28]; exact mW_put hP (by omega) rfl
                  have e9 : t_26 = t_2 := by rw [et_26, hJ1, show v_24 45 = v_1 45 from (by rw [ev_24, mU_ne _ _ (by first | decide | omega), ev_22, mU_ne _ _ (by first | decide | omega), ev_21, mU_ne _ _ (by first | decide | omega), ev_20, mU_ne _ _ (by first | decide | omega), ev_19, mU_ne _ _ (by first | decide | omega)])]; exact et_2.symm
                  have hs9 : t_26.toInt < 12 := by rw [e9]; have z0 := c_3; have z1 := c_5a; have z2 := c_5b; have z3 := c_8a; have z4 := c_8b; have z5 := c_11a; have z6 := c_11b; have z7 := c_14a; have z8 := c_14b; have z9 := c_25; have z10 := hsc_2; have z11 := hsc_26; (try simp only [Int32.lt_iff_toInt_lt, Int32.le_iff_toInt_le, ← Int32.toInt_inj, L0, L1, L2, L3, L4, L6, L9, L500, L5, L7, L10, L12, L15, L16, L20, L63, L1000, L1023, L2000, L10000, L100000, Lm1] at z0 z1 z2 z3 z4 z5 z6 z7 z8 z9 z10 z11); omega
                  have hs8 : t_26.toInt ≤ 12 ∧ 0 ≤ t_26.toInt := ⟨hsc_26.2, hsc_26.1⟩
                  have hy9 := kt_addI (x := t_26) (by omega) (by omega) et_27
                  have hB := hB.putM (m := gn) ev_28 (fun _ => ⟨by rw [← et_26]; omega, by omega⟩) (by rw [if_neg (by decide)]; exact Nat.le_refl _)
                  have hL := hL.putM ev_28 (by decide)
                  refine lv_iload hx hb dX6_secret_179 (lv_at hl 1 rfl) ?_
                  rw [hQ9]
                  have h2 : v_28 45 2 = v 45 2 + 1 := by rw [ev_28, mU_self]; simp only [upd, if_true]; rw [et_27, e9, (show t_2 = v 45 2 from et_2.trans (by rw [ev_1, mU_self]; rfl))]
                  have hJ45 : w1 45 = v_1 45 := hJ1.trans (by rw [ev_24, mU_ne _ _ (by first | decide | omega), ev_22, mU_ne _ _ (by first | decide | omega), ev_21, mU_ne _ _ (by first | decide | omega), ev_20, mU_ne _ _ (by first | decide | omega), ev_19, mU_ne _ _ (by first | decide | omega)])
                  exact W.iret (v := t_2) hx hb hr (fun t ht hW => ⟨⟨t_2, v_28, rfl, ⟨hB, hL, ⟨by rw [sp_sec, if_neg (by unfold sp_bad; rw [← (show t_2 = v 45 2 from et_2.trans (by rw [ev_1, mU_self]; rfl))]; have z0 := c_3; have z1 := c_5a; have z2 := c_5b; have z3 := c_8a; have z4 := c_8b; have z5 := c_11a; have z6 := c_11b; have z7 := c_14a; have z8 := c_14b; have z9 := c_25; have z10 := hsc_2; have z11 := hsc_26; (try simp only [Int32.lt_iff_toInt_lt, Int32.le_iff_toInt_le, ← Int32.toInt_inj, L0, L1, L2, L3, L4, L6, L9, L500, L5, L7, L10, L12, L15, L16, L20, L63, L1000, L1023, L2000, L10000, L100000, Lm1] at z0 z1 z2 z3 z4 z5 z6 z7 z8 z9 z10 z11 ⊢); omega)]; exact (show t_2 = v 45 2 from et_2.trans (by rw [ev_1, mU_self]; rfl)), by rw [sn_sec, if_neg (by unfold sp_bad; rw [← (show t_2 = v 45 2 from et_2.trans (by rw [ev_1, mU_self]; rfl))]; have z0 := c_3; have z1 := c_5a; have z2 := c_5b; have z3 := c_8a; have z4 := c_8b; have z5 := c_11a; have z6 := c_11b; have z7 := c_14a; have z8 := c_14b; have z9 := c_25; have z10 := hsc_2; have z11 := hsc_26; (try simp only [Int32.lt_iff_toInt_lt, Int32.le_iff_toInt_le, ← Int32.toInt_inj, L0, L1, L2, L3, L4, L6, L9, L500, L5, L7, L10, L12, L15, L16, L20, L63, L1000, L1023, L2000, L10000, L100000, Lm1] at z0 z1 z2 z3 z4 z5 z6 z7 z8 z9 z10 z11 ⊢); omega), h2], by rw [ev_28, mU_self]; show w1 45 1 = v 45 1; rw [hJ45, ev_1, mU_self]; rfl, by rw [ev_28, mU_ne _ _ (by decide)]; exact hJ60.trans (by rw [ev_24, mU_ne _ _ (by first | decide | omega), ev_22, mU_ne _ _ (by first | decide | omega), ev_21, mU_ne _ _ (by first | decide | omega), ev_20, mU_ne _ _ (by first | decide | omega), ev_19, mU_ne _ _ (by first | decide | omega), ev_1, mU_ne _ _ (by first | decide | omega)])⟩⟩, kt_heap ht hP⟩, hS.F ht⟩) hS.2.2 dX6_secret_181
                · refine lv_aload_n hx hb dX6_secret_118 rfl (lv_at hl 2 rfl) ?_
                  refine va_get (D := (dC, dI)) (ci := 6) (v := .ref (a 62)) (C := RX6) (T := TX6) (N := 43) hx hb hts (fun w h => List.mem_cons_of_mem _ (inWX6 w h)) hown hK hP 45 at_45 rfl 25 (by decide) (hts _ (List.mem_cons_of_mem _ kw_t3_66)) (fun _ h9 => h9) rfl dX6_secret_119 ?_
                  refine lv_bipush (v := 6) hx hb dX6_secret_122 (by decide) ?_
                  refine lv_iload hx hb dX6_secret_124 (lv_at hl 1 rfl) ?_
                  refine lv_imul hx hb dX6_secret_126 ?_
                  refine lv_topi (fun t_29 et_29 => ?_)
                  refine lv_iload hx hb dX6_secret_127 (lv_at hl 0 rfl) ?_
                  refine lv_iadd hx hb dX6_secret_129 ?_
                  refine lv_topi (fun t_30 et_30 => ?_)
                  refine lv_iconst (v := 0) hx hb dX6_secret_130 (by decide) ?_
                  have hi_32 : i1 < 6 := kt_lt (N := 6) rfl (by decide) ek1 hi1 c_25
                  have hm_31 : t_30 = nI (6 * ix_18 + i1) := kt_mad (C := 6) rfl ex_18 ek1 et_29 et_30
                  refine va_iast hx hb hK hP (mD_of hD hAc) hS 62 0 at_62 rfl (kt_inN hm_31 (by omega) (by decide)) dX6_secret_131 (fun H locs hP _ hS => ?_)
                  obtain ⟨v_33, ev_33⟩ : ∃ z, z = mU w1 62 (upd (w1 62) (6 * ix_18 + i1) 0) := ⟨_, rfl⟩
                  have hP : va_P (dC, dI) vwCl (mW cI cZ cS cC cJ a v_33) H := by rw [ev_33]; exact mW_put hP (by omega) (by rw [hm_31, nI_clamp (by omega)]; rfl)
                  have hB := hB.put ev_33 (by decide)
                  have hL := hL.put ev_33 (by decide)
                  refine lv_aload_n hx hb dX6_secret_132 rfl (lv_at hl 2 rfl) ?_
                  refine va_get (D := (dC, dI)) (ci := 6) (v := .ref (a 65)) (C := RX6) (T := TX6) (N := 43) hx hb hts (fun w h => List.mem_cons_of_mem _ (inWX6 w h)) hown hK hP 45 at_45 rfl 28 (by decide) (hts _ (List.mem_cons_of_mem _ kw_t3_69)) (fun _ h9 => h9) rfl dX6_secret_133 ?_
                  refine lv_bipush (v := 6) hx hb dX6_secret_136 (by decide) ?_
                  refine lv_iload hx hb dX6_secret_138 (lv_at hl 1 rfl) ?_
                  refine lv_imul hx hb dX6_secret_140 ?_
                  refine lv_topi (fun t_34 et_34 => ?_)
                  refine lv_iload hx hb dX6_secret_141 (lv_at hl 0 rfl) ?_
                  refine lv_iadd hx hb dX6_secret_143 ?_
                  refine lv_topi (fun t_35 et_35 => ?_)
                  refine lv_aload_n hx hb dX6_secret_144 rfl (lv_at hl 2 rfl) ?_
                  refine va_get (D := (dC, dI)) (ci := 6) (v := .int (v_33 45 1)) (C := RX6) (T := TX6) (N := 43) hx hb hts (fun w h => List.mem_cons_of_mem _ (inWX6 w h)) hown hK hP 45 at_45 rfl 1 (by decide) (hts _ (List.mem_cons_of_mem _ kw_t3_42)) (fun _ h9 => h9) rfl dX6_secret_145 ?_
                  refine lv_topi (fun t_36 et_36 => ?_)
                  have hm_37 : t_35 = nI (6 * ix_18 + i1) := kt_mad (C := 6) rfl ex_18 ek1 et_34 et_35
                  refine va_iast hx hb hK hP (mD_of hD hAc) hS 65 0 at_65 rfl (kt_inN hm_37 (by omega) (by decide)) dX6_secret_148 (fun H locs hP _ hS => ?_)
                  obtain ⟨v_38, ev_38⟩ : ∃ z, z = mU v_33 65 (upd (v_33 65) (6 * ix_18 + i1) t_36) := ⟨_, rfl⟩
                  have hP : va_P (dC, dI) vwCl (mW cI cZ cS cC cJ a v_38) H := by rw [ev_38]; exact mW_put hP (by omega) (by rw [hm_37, nI_clamp (by omega)]; rfl)
                  have hB := hB.put ev_38 (by decide)
                  have hL := hL.put ev_38 (by decide)
                  refine lv_aload_n hx hb dX6_secret_149 rfl (lv_at hl 2 rfl) ?_
                  refine va_get (D := (dC, dI)) (ci := 6) (v := .ref (a 63)) (C := RX6) (T := TX6) (N := 43) hx hb hts (fun w h => List.mem_cons_of_mem _ (inWX6 w h)) hown hK hP 45 at_45 rfl 26 (by decide) (hts _ (List.mem_cons_of_mem _ kw_t3_67)) (fun _ h9 => h9) rfl dX6_secret_150 ?_
                  refine lv_bipush (v := 6) hx hb dX6_secret_153 (by decide) ?_
                  refine lv_iload hx hb dX6_secret_155 (lv_at hl 1 rfl) ?_
                  refine lv_imul hx hb dX6_secret_157 ?_
                  refine lv_topi (fun t_39 et_39 => ?_)
                  refine lv_iload hx hb dX6_secret_158 (lv_at hl 0 rfl) ?_
                  refine lv_iadd hx hb dX6_secret_160 ?_
                  refine lv_topi (fun t_40 et_40 => ?_)
                  refine lv_iconst (v := (-1)) hx hb dX6_secret_161 (by decide) ?_
                  have hm_41 : t_40 = nI (6 * ix_18 + i1) := kt_mad (C := 6) rfl ex_18 ek1 et_39 et_40
                  refine va_iast hx hb hK hP (mD_of hD hAc) hS 63 0 at_63 rfl (kt_inN hm_41 (by omega) (by decide)) dX6_secret_162 (fun H locs hP _ hS => ?_)
                  obtain ⟨v_42, ev_42⟩ : ∃ z, z = mU v_38 63 (upd (v_38 63) (6 * ix_18 + i1) (-1)) := ⟨_, rfl⟩
                  have hP : va_P (dC, dI) vwCl (mW cI cZ cS cC cJ a v_42) H := by rw [ev_42]; exact mW_put hP (by omega) (by rw [hm_41, nI_clamp (by omega)]; rfl)
                  have hB := hB.put ev_42 (by decide)
                  have hL := hL.put ev_42 (by decide)
                  obtain ⟨t_43, et_43⟩ : ∃ y : Int32, y = k1 + 1 := ⟨_, rfl⟩
                  refine lv_iinc (v := t_43) (lv' := [(6, .int t_43), (5, .int t_2), (0, .ref (a 45)), (1, .int p0), (2, .int p1), (3, .int p2), (4, .int p3)]) hx hb dX6_secret_163 hl (k := 0) rfl (by rw [et_43]; rfl) (by decide) rfl (fun ls hl => ?_)
                  refine lv_goto (tgt := 111) hx hb dX6_secret_166 (by decide) ?_
                  exact ih1 (i1 + 1) t_43 v_42 _ _ _ (by omega) (by omega) (by rw [et_43, ek1]; exact nI_1 i1) hP hS (lv_sub hl [0, 1, 2, 3, 4, 5, 6] rfl) hB hL ⟨(by rw [ev_42, mU_ne _ _ (by first | decide | omega), ev_38, mU_ne _ _ (by first | decide | omega), ev_33, mU_ne _ _ (by first | decide | omega)]; exact hJ1), (by rw [ev_42, mU_ne _ _ (by first | decide | omega), ev_38, mU_ne _ _ (by first | decide | omega), ev_33, mU_ne _ _ (by first | decide | omega)]; exact hJ60)⟩
            exact key1 (6 + 1) 0 0 v_24 _ _ _ (Nat.zero_le _) (by omega) rfl hP hS (lv_sub hl [0, 1, 2, 3, 4, 5, 6] rfl) hB hL ⟨rfl, rfl⟩
          · subst hz_14
            refine lv_if_ne (tgt := 58) hx hb dX6_secret_53 (by decide) (fun c_44 => absurd (by decide) c_44) (fun c_44 => ?_)
            refine lv_iconst (v := (-1)) hx hb dX6_secret_56 (by decide) ?_
            rw [hQ9]
            exact W.iret (v := (-1)) hx hb hr (fun t ht hW => ⟨⟨(-1), v_1, rfl, ⟨hB, hL, ⟨by rw [sp_sec, if_pos (by unfold sp_bad; rw [← (show t_2 = v 45 2 from et_2.trans (by rw [ev_1, mU_self]; rfl))]; have z0 := c_3; have z1 := c_5a; have z2 := c_5b; have z3 := c_8a; have z4 := c_8b; have z5 := c_11a; have z6 := c_11b; have z7 := c_14d; have z8 := hsc_2; (try simp only [Int32.lt_iff_toInt_lt, Int32.le_iff_toInt_le, ← Int32.toInt_inj, L0, L1, L2, L3, L4, L6, L9, L500, L5, L7, L10, L12, L15, L16, L20, L63, L1000, L1023, L2000, L10000, L100000, Lm1] at z0 z1 z2 z3 z4 z5 z6 z7 z8 ⊢); omega)], by rw [sn_sec, if_pos (by unfold sp_bad; rw [← (show t_2 = v 45 2 from et_2.trans (by rw [ev_1, mU_self]; rfl))]; have z0 := c_3; have z1 := c_5a; have z2 := c_5b; have z3 := c_8a; have z4 := c_8b; have z5 := c_11a; have z6 := c_11b; have z7 := c_14d; have z8 := hsc_2; (try simp only [Int32.lt_iff_toInt_lt, Int32.le_iff_toInt_le, ← Int32.toInt_inj, L0, L1, L2, L3, L4, L6, L9, L500, L5, L7, L10, L12, L15, L16, L20, L63, L1000, L1023, L2000, L10000, L100000, Lm1] at z0 z1 z2 z3 z4 z5 z6 z7 z8 ⊢); omega), ev_1, mU_self]; rfl, by rw [ev_1, mU_self]; rfl, (by rw [ev_1, mU_ne _ _ (by first | decide | omega)])⟩⟩, kt_heap ht hP⟩, hS.F ht⟩) hS.2.2 dX6_secret_57
        · subst hz_11
          refine lv_if_eq (tgt := 56) hx hb dX6_secret_41 (by decide) (fun c_45 => ?_) (fun c_45 => absurd (by decide) c_45)
          refine lv_iconst (v := (-1)) hx hb dX6_secret_56 (by decide) ?_
          rw [hQ9]
          exact W.iret (v := (-1)) hx hb hr (fun t ht hW => ⟨⟨(-1), v_1, rfl, ⟨hB, hL, ⟨by rw [sp_sec, if_pos (by unfold sp_bad; rw [← (show t_2 = v 45 2 from et_2.trans (by rw [ev_1, mU_self]; rfl))]; have z0 := c_3; have z1 := c_5a; have z2 := c_5b; have z3 := c_8a; have z4 := c_8b; have z5 := c_11d; have z6 := hsc_2; (try simp only [Int32.lt_iff_toInt_lt, Int32.le_iff_toInt_le, ← Int32.toInt_inj, L0, L1, L2, L3, L4, L6, L9, L500, L5, L7, L10, L12, L15, L16, L20, L63, L1000, L1023, L2000, L10000, L100000, Lm1] at z0 z1 z2 z3 z4 z5 z6 ⊢); omega)], by rw [sn_sec, if_pos (by unfold sp_bad; rw [← (show t_2 = v 45 2 from et_2.trans (by rw [ev_1, mU_self]; rfl))]; have z0 := c_3; have z1 := c_5a; have z2 := c_5b; have z3 := c_8a; have z4 := c_8b; have z5 := c_11d; have z6 := hsc_2; (try simp only [Int32.lt_iff_toInt_lt, Int32.le_iff_toInt_le, ← Int32.toInt_inj, L0, L1, L2, L3, L4, L6, L9, L500, L5, L7, L10, L12, L15, L16, L20, L63, L1000, L1023, L2000, L10000, L100000, Lm1] at z0 z1 z2 z3 z4 z5 z6 ⊢); omega), ev_1, mU_self]; rfl, by rw [ev_1, mU_self]; rfl, (by rw [ev_1, mU_ne _ _ (by first | decide | omega)])⟩⟩, kt_heap ht hP⟩, hS.F ht⟩) hS.2.2 dX6_secret_57
      · subst hz_8
        refine lv_if_eq (tgt := 56) hx hb dX6_secret_31 (by decide) (fun c_46 => ?_) (fun c_46 => absurd (by decide) c_46)
        refine lv_iconst (v := (-1)) hx hb dX6_secret_56 (by decide) ?_
        rw [hQ9]
        exact W.iret (v := (-1)) hx hb hr (fun t ht hW => ⟨⟨(-1), v_1, rfl, ⟨hB, hL, ⟨by rw [sp_sec, if_pos (by unfold sp_bad; rw [← (show t_2 = v 45 2 from et_2.trans (by rw [ev_1, mU_self]; rfl))]; have z0 := c_3; have z1 := c_5a; have z2 := c_5b; have z3 := c_8d; have z4 := hsc_2; (try simp only [Int32.lt_iff_toInt_lt, Int32.le_iff_toInt_le, ← Int32.toInt_inj, L0, L1, L2, L3, L4, L6, L9, L500, L5, L7, L10, L12, L15, L16, L20, L63, L1000, L1023, L2000, L10000, L100000, Lm1] at z0 z1 z2 z3 z4 ⊢); omega)], by rw [sn_sec, if_pos (by unfold sp_bad; rw [← (show t_2 = v 45 2 from et_2.trans (by rw [ev_1, mU_self]; rfl))]; have z0 := c_3; have z1 := c_5a; have z2 := c_5b; have z3 := c_8d; have z4 := hsc_2; (try simp only [Int32.lt_iff_toInt_lt, Int32.le_iff_toInt_le, ← Int32.toInt_inj, L0, L1, L2, L3, L4, L6, L9, L500, L5, L7, L10, L12, L15, L16, L20, L63, L1000, L1023, L2000, L10000, L100000, Lm1] at z0 z1 z2 z3 z4 ⊢); omega), ev_1, mU_self]; rfl, by rw [ev_1, mU_self]; rfl, (by rw [ev_1, mU_ne _ _ (by first | decide | omega)])⟩⟩, kt_heap ht hP⟩, hS.F ht⟩) hS.2.2 dX6_secret_57
    · subst hz_5
      refine lv_if_eq (tgt := 56) hx hb dX6_secret_20 (by decide) (fun c_47 => ?_) (fun c_47 => absurd (by decide) c_47)
      refine lv_iconst (v := (-1)) hx hb dX6_secret_56 (by decide) ?_
      rw [hQ9]
      exact W.iret (v := (-1)) hx hb hr (fun t ht hW => ⟨⟨(-1), v_1, rfl, ⟨hB, hL, ⟨by rw [sp_sec, if_pos (by unfold sp_bad; rw [← (show t_2 = v 45 2 from et_2.trans (by rw [ev_1, mU_self]; rfl))]; have z0 := c_3; have z1 := c_5d; have z2 := hsc_2; (try simp only [Int32.lt_iff_toInt_lt, Int32.le_iff_toInt_le, ← Int32.toInt_inj, L0, L1, L2, L3, L4, L6, L9, L500, L5, L7, L10, L12, L15, L16, L20, L63, L1000, L1023, L2000, L10000, L100000, Lm1] at z0 z1 z2 ⊢); omega)], by rw [sn_sec, if_pos (by unfold sp_bad; rw [← (show t_2 = v 45 2 from et_2.trans (by rw [ev_1, mU_self]; rfl))]; have z0 := c_3; have z1 := c_5d; have z2 := hsc_2; (try simp only [Int32.lt_iff_toInt_lt, Int32.le_iff_toInt_le, ← Int32.toInt_inj, L0, L1, L2, L3, L4, L6, L9, L500, L5, L7, L10, L12, L15, L16, L20, L63, L1000, L1023, L2000, L10000, L100000, Lm1] at z0 z1 z2 ⊢); omega), ev_1, mU_self]; rfl, by rw [ev_1, mU_self]; rfl, (by rw [ev_1, mU_ne _ _ (by first | decide | omega)])⟩⟩, kt_heap ht hP⟩, hS.F ht⟩) hS.2.2 dX6_secret_57
