set_option maxHeartbeats 4000000 in
set_option maxRecDepth 100000 in
theorem c_X6_turn (l : Launch) (dC : Nat → ClassId) (dI : Nat → Nat → Nat) (cI cZ cS cC cJ : ClassId) (a : Nat → Nat) (v : Nat → Nat → Int32) (sz : Nat) (p0 : Int32) (hD : mDD a) (gn : Nat) (hn : gn < 100000) (hB : rB gn v v) (hL : rL v) : Met l yX6_turn (Cond.code yX6_turn cX6_turn 3 (some .int) :: WW) ({ frames := 4, cells := 0, slots := 0, locals := 120 }) (va_Pc [.ref (a 45), .int p0] (fun U => U.heap.size = sz ∧ va_P (dC, dI) vwCl (mW cI cZ cS cC cJ a v) U.heap ∧ va_K (dC, dI) vwCl [(cI, .int), (cZ, .boolean), (cS, .object RX3), (cC, .object RX0), (cJ, .long)] U ∧ mN U)) (va_Qi (fun (r : Int32) (u : Nat → Nat → Int32) => (rB (gn + 1) v u) ∧ (rL u)) (fun (u : Nat → Nat → Int32) (t : State) => va_P (dC, dI) vwCl (mW cI cZ cS cC cJ a u) t.heap) (mA a sz)) 0 0 (mA a sz) := by
  refine Met.ofW (cc := cX6_turn) (maxL := 3) (ret := (some .int)) (by decide) rfl ?_
  intro p e s m args below meth c s₁ B hml hv
  obtain ⟨rfl, hsz, hP, hK, hN⟩ := hv
  have hx := B.exec
  have hb := B.bytes
  have hr := B.returns
  have hts := atoms_spec (ws := Cond.code yX6_turn cX6_turn 3 (some .int) :: WW) B.pre
  have hown : s.vm.findClass RX6 = some m.cls := findClass_of_methodNamed B.named
  have hlocks := B.notSynchronized
  subst hsz
  have hAc : ∀ c, c < 81 → mA a s.heap.size (a c) := fun c h => Or.inl ⟨c, h, rfl⟩
  have hA : ∀ q : Nat, s.heap.size ≤ q → mA a s.heap.size q := fun q h => Or.inr h
  generalize hAe : mA a s.heap.size = A at hAc hA ⊢
  have hS : va_S A s.heap s.heap [] := va_S.rf
  have hl := lv_entry ([.ref (a 45), .int p0]) (n := 3) (Nat.le_of_ble_eq_true rfl)
  rw [lg_entry_eq]
  generalize (lg_sl ([.ref (a 45), .int p0]) ++ List.replicate (3 - (lg_sl ([.ref (a 45), .int p0])).length) Slot.unset).toArray = ls at hl ⊢
  have hl : lv_has ls 3 [(0, .ref (a 45)), (1, .int p0)] := hl
  refine kt_absQ (fun Q hQ9 => ?_)
  refine lv_aload_n hx hb dX6_turn_0 rfl (lv_at hl 0 rfl) ?_
  refine lv_iconst (v := 0) hx hb dX6_turn_1 (by decide) ?_
  refine va_put (D := (dC, dI)) (ci := 6) (v := .int 0) (ty := .int) (C := RX6) (T := TX6) (N := 43) hx hb hts (fun w h => List.mem_cons_of_mem _ (inWX6 w h)) tyX6 tyX6_ok nmX6 hown hK hP (mD_of hD hAc) hS 45 at_45 rfl 0 (by decide) (hts _ (List.mem_cons_of_mem _ kw_t3_41)) (fun _ h9 => h9) rfl (by decide +kernel) rfl rfl (Nat.le_of_ble_eq_true rfl) dX6_turn_2 (fun H locs hP _ hS => ?_)
  obtain ⟨v_1, ev_1⟩ : ∃ z, z = mU v 45 (upd (v 45) 0 0) := ⟨_, rfl⟩
  have hP : va_P (dC, dI) vwCl (mW cI cZ cS cC cJ a v_1) H := by rw [ev_1]; exact mW_put hP (by omega) rfl
  have hB := hB.putO ev_1 (by decide)
  have hL := hL.putM ev_1 (by decide)
  refine lv_aload_n hx hb dX6_turn_5 rfl (lv_at hl 0 rfl) ?_
  refine lv_iload_n hx hb dX6_turn_6 rfl (lv_at hl 1 rfl) ?_
  have hFc := mA_free (a := a) hS hA hAc
  refine va_calli (va_runV (As := [.int p0]) (rest := []) ⟨hx, hb, hml, hown, hts⟩ (c_X6_isSecret l dC dI cI cZ cS cC cJ a v_1 H.size p0 hD gn (by omega) hB.self) (cwV 1 hts (gV (fun w h => List.mem_cons_of_mem _ h) kw_t3_183 kw_t3_185 kw_s0_12 kw_t1_7 kw_t3_186) rfl rfl rfl (by decide +kernel) ⟨Nat.le_of_ble_eq_true rfl, Nat.le_of_ble_eq_true rfl⟩) ⟨fun av U g mk q => by obtain ⟨q0, q1, qP, qK, qN⟩ := q; exact ⟨q0, q1, qP, va_K.moved (u := U) (U := U.calling g mk av) (Vm.Alike.refl U.vm) qK, mN_same qN⟩, va_recv hK hP (ci := 6) (q0 := 45) rfl at_45, fun U hU hW => ⟨rfl, by rw [hU], by rw [hU]; exact hP, va_K.moved hW.alike hK, mN_warm hW hN⟩⟩ rfl rfl hl.1 rfl (lv_room (Nat.le_of_ble_eq_true rfl)) dX6_turn_7 ⟨Nat.le_of_ble_eq_true rfl, Nat.le_of_ble_eq_true rfl⟩) hS (fun q _ h => hFc q h) hFc (fun r_2 _ t H locs ht hvm hw_2 hP _ _ hS => ?_)
  have hP := kt_heap2 ht hP
  clear ht hFc
  have hP : va_P (dC, dI) vwCl (mW cI cZ cS cC cJ a v_1) H := hP
  rcases hw_2 with ⟨hz_3, hns_3⟩ | ⟨hz_3, ix_3, hx_3, ex_3, hlt_3⟩
  · subst hz_3
    refine lv_if_eq (tgt := 32) hx hb dX6_turn_10 (by decide) (fun c_4 => ?_) (fun c_4 => absurd (by decide) c_4)
    refine lv_iconst (v := (-1)) hx hb dX6_turn_32 (by decide) ?_
    rw [hQ9]
    exact W.iret (v := (-1)) hx hb hr (fun t ht hW => ⟨⟨(-1), v_1, rfl, ⟨(hB.up (by omega)), hL⟩, kt_heap ht hP⟩, hS.F ht⟩) hS.2.2 dX6_turn_33
  · subst hz_3
    refine lv_if_eq (tgt := 32) hx hb dX6_turn_10 (by decide) (fun c_5 => absurd c_5 (by decide)) (fun c_5 => ?_)
    refine lv_aload_n hx hb dX6_turn_13 rfl (lv_at hl 0 rfl) ?_
    refine va_get (D := (dC, dI)) (ci := 6) (v := .ref (a 60)) (C := RX6) (T := TX6) (N := 43) hx hb hts (fun w h => List.mem_cons_of_mem _ (inWX6 w h)) hown hK hP 45 at_45 rfl 23 (by decide) (hts _ (List.mem_cons_of_mem _ kw_t3_64)) (fun _ h9 => h9) rfl dX6_turn_14 ?_
    refine lv_bipush (v := 16) hx hb dX6_turn_17 (by decide) ?_
    refine va_zald hx hb hK hP 60 1 at_60 rfl (by unfold vp_in; decide) dX6_turn_19 ?_
    refine lv_topi (fun t_6 et_6 => ?_)
    have et_6 : t_6 = v_1 60 16 := et_6
    refine lv_if_ne (tgt := 32) hx hb dX6_turn_20 (by decide) (fun c_7 => ?_) (fun c_7 => ?_)
    · refine lv_iconst (v := (-1)) hx hb dX6_turn_32 (by decide) ?_
      rw [hQ9]
      exact W.iret (v := (-1)) hx hb hr (fun t ht hW => ⟨⟨(-1), v_1, rfl, ⟨(hB.up (by omega)), hL⟩, kt_heap ht hP⟩, hS.F ht⟩) hS.2.2 dX6_turn_33
    · refine lv_aload_n hx hb dX6_turn_23 rfl (lv_at hl 0 rfl) ?_
      refine va_get (D := (dC, dI)) (ci := 6) (v := .ref (a 52)) (C := RX6) (T := TX6) (N := 43) hx hb hts (fun w h => List.mem_cons_of_mem _ (inWX6 w h)) hown hK hP 45 at_45 rfl 15 (by decide) (hts _ (List.mem_cons_of_mem _ kw_t3_56)) (fun _ h9 => h9) rfl dX6_turn_24 ?_
      refine lv_iload_n hx hb dX6_turn_27 rfl (lv_at hl 1 rfl) ?_
      refine va_iald hx hb hK hP 52 0 at_52 rfl (kt_inN ex_3 (by omega) (by decide)) dX6_turn_28 ?_
      refine lv_topi (fun t_8 et_8 => ?_)
      rw [ex_3, nI_clamp (by omega)] at et_8
      refine lv_if_eq (tgt := 34) hx hb dX6_turn_29 (by decide) (fun c_9 => ?_) (fun c_9 => ?_)
      · refine lv_iconst (v := 0) hx hb dX6_turn_34 (by decide) ?_
        refine lv_istore_n (lv' := [(2, .int 0), (0, .ref (a 45)), (1, .int p0)]) hx hb dX6_turn_35 rfl hl (by decide) rfl (fun ls hl => ?_)
        have key1 : ∀ (n i1 : Nat) (k1 : Int32) (w1 : Nat → Nat → Int32) (H : Heap) (locs : List Loc) (ls : Array Slot), i1 ≤ 12 → 12 - i1 < n → k1 = nI i1 → va_P (dC, dI) vwCl (mW cI cZ cS cC cJ a w1) H → va_S A s.heap H locs → lv_has ls 3 [(2, .int k1), (0, .ref (a 45)), (1, .int p0)] → rB gn v w1 → rL w1 → (w1 52 = v_1 52) → W p l e (headSpec (Cond.code yX6_turn cX6_turn 3 (some .int) :: WW) ({ frames := 4, cells := 0, slots := 0, locals := 120 })).room s m ([.ref (a 45), .int p0] : List Value).toArray below meth c H locs 0 0 Q (F0 m 36 ls []) := by
          intro n
          induction n with
          | zero => intro i k w1 H locs ls h1 h2; exact absurd h2 (by omega)
          | succ n ih1 =>
            intro i1 k1 w1 H locs ls hi1 hin1 ek1 hP hS hl hB hL hJ1
            refine lv_iload_n hx hb dX6_turn_36 rfl (lv_at hl 0 rfl) ?_
            refine lv_aload_n hx hb dX6_turn_37 rfl (lv_at hl 1 rfl) ?_
            refine va_get (D := (dC, dI)) (ci := 6) (v := .int (w1 45 2)) (C := RX6) (T := TX6) (N := 43) hx hb hts (fun w h => List.mem_cons_of_mem _ (inWX6 w h)) hown hK hP 45 at_45 rfl 2 (by decide) (hts _ (List.mem_cons_of_mem _ kw_t3_43)) (fun _ h9 => h9) rfl dX6_turn_38 ?_
            refine lv_topi (fun t_10 et_10 => ?_)
            have hsc_10 : 0 ≤ t_10.toInt ∧ t_10.toInt ≤ 12 := by rw [et_10]; exact hB.sc
            refine lv_icmp_ge (tgt := 79) hx hb dX6_turn_41 (by decide) (fun c_11 => ?_) (fun c_11 => ?_)
            · refine lv_aload_n hx hb dX6_turn_79 rfl (lv_at hl 1 rfl) ?_
              refine lv_iload_n hx hb dX6_turn_80 rfl (lv_at hl 2 rfl) ?_
              refine lv_iconst (v := 0) hx hb dX6_turn_81 (by decide) ?_
              have hFc := mA_free (a := a) hS hA hAc
              refine va_callv (va_runV (As := [.int p0, .int 0]) (rest := []) ⟨hx, hb, hml, hown, hts⟩ (c_X6_start l dC dI cI cZ cS cC cJ a w1 H.size p0 0 hD gn (by omega) hB.self hL ix_3 (by omega) ex_3 (by rw [hJ1, ← et_8]; exact c_9)) (cwV 2 hts (gV (fun w h => List.mem_cons_of_mem _ h) kw_t4_12 kw_t4_14 kw_s0_21 kw_t1_7 kw_t4_15) rfl rfl rfl (by decide +kernel) ⟨Nat.le_of_ble_eq_true rfl, Nat.le_of_ble_eq_true rfl⟩) ⟨fun av U g mk q => by obtain ⟨q0, q1, qP, qK, qN⟩ := q; exact ⟨q0, q1, qP, va_K.moved (u := U) (U := U.calling g mk av) (Vm.Alike.refl U.vm) qK, mN_same qN⟩, va_recv hK hP (ci := 6) (q0 := 45) rfl at_45, fun U hU hW => ⟨rfl, by rw [hU], by rw [hU]; exact hP, va_K.moved hW.alike hK, mN_warm hW hN⟩⟩ rfl rfl hl.1 rfl (lv_room (Nat.le_of_ble_eq_true rfl)) dX6_turn_82 ⟨Nat.le_of_ble_eq_true rfl, Nat.le_of_ble_eq_true rfl⟩) hS (fun q _ h => hFc q h) hFc (fun v_12 t H locs ht hvm hw_12 hP _ _ hS => ?_)
              have hP := kt_heap2 ht hP
              clear ht hFc
              have hP : va_P (dC, dI) vwCl (mW cI cZ cS cC cJ a v_12) H := hP
              have hB := hB.trans hw_12.1
              have hL := hw_12.2
              refine lv_aload_n hx hb dX6_turn_85 rfl (lv_at hl 1 rfl) ?_
              refine va_get (D := (dC, dI)) (ci := 6) (v := .ref (a 50)) (C := RX6) (T := TX6) (N := 43) hx hb hts (fun w h => List.mem_cons_of_mem _ (inWX6 w h)) hown hK hP 45 at_45 rfl 13 (by decide) (hts _ (List.mem_cons_of_mem _ kw_t3_54)) (fun _ h9 => h9) rfl dX6_turn_86 ?_
              refine lv_iload_n hx hb dX6_turn_89 rfl (lv_at hl 2 rfl) ?_
              refine va_iald hx hb hK hP 50 0 at_50 rfl (kt_inN ex_3 (by omega) (by decide)) dX6_turn_90 ?_
              refine lv_topi (fun t_13 et_13 => ?_)
              rw [ex_3, nI_clamp (by omega)] at et_13
              rw [hQ9]
              exact W.iret (v := t_13) hx hb hr (fun t ht hW => ⟨⟨t_13, v_12, rfl, ⟨(hB.up (by omega)), hL⟩, kt_heap ht hP⟩, hS.F ht⟩) hS.2.2 dX6_turn_91
            · refine lv_aload_n hx hb dX6_turn_44 rfl (lv_at hl 1 rfl) ?_
              refine va_get (D := (dC, dI)) (ci := 6) (v := .ref (a 52)) (C := RX6) (T := TX6) (N := 43) hx hb hts (fun w h => List.mem_cons_of_mem _ (inWX6 w h)) hown hK hP 45 at_45 rfl 15 (by decide) (hts _ (List.mem_cons_of_mem _ kw_t3_56)) (fun _ h9 => h9) rfl dX6_turn_45 ?_
              refine lv_iload_n hx hb dX6_turn_48 rfl (lv_at hl 0 rfl) ?_
              have hi_14 : i1 < 12 := kt_lt12 hsc_10 ek1 hi1 c_11
              refine va_iald hx hb hK hP 52 0 at_52 rfl (kt_inN ek1 (by omega) (by decide)) dX6_turn_49 ?_
              refine lv_topi (fun t_15 et_15 => ?_)
              rw [ek1, nI_clamp (by omega)] at et_15
              refine lv_if_eq (tgt := 73) hx hb dX6_turn_50 (by decide) (fun c_16 => ?_) (fun c_16 => ?_)
              · obtain ⟨t_17, et_17⟩ : ∃ y : Int32, y = k1 + 1 := ⟨_, rfl⟩
                refine lv_iinc (v := t_17) (lv' := [(2, .int t_17), (0, .ref (a 45)), (1, .int p0)]) hx hb dX6_turn_73 hl (k := 0) rfl (by rw [et_17]; rfl) (by decide) rfl (fun ls hl => ?_)
                refine lv_goto (tgt := 36) hx hb dX6_turn_76 (by decide) ?_
                exact ih1 (i1 + 1) t_17 w1 _ _ _ (by omega) (by omega) (by rw [et_17, ek1]; exact nI_1 i1) hP hS (lv_sub hl [0, 1, 2] rfl) hB hL hJ1
              · refine lv_aload_n hx hb dX6_turn_53 rfl (lv_at hl 1 rfl) ?_
                refine lv_iload_n hx hb dX6_turn_54 rfl (lv_at hl 2 rfl) ?_
                refine lv_iload_n hx hb dX6_turn_55 rfl (lv_at hl 0 rfl) ?_
                have hFc := mA_free (a := a) hS hA hAc
                refine va_calli (va_runV (As := [.int p0, .int k1]) (rest := []) ⟨hx, hb, hml, hown, hts⟩ (c_X6_hangsOn l dC dI cI cZ cS cC cJ a w1 H.size p0 k1 hD gn (by omega) hB.self ix_3 (by omega) ex_3 i1 (by omega) ek1) (cwV 2 hts (gV (fun w h => List.mem_cons_of_mem _ h) kw_t3_187 kw_t3_189 kw_s0_13 kw_t1_7 kw_t3_190) rfl rfl rfl (by decide +kernel) ⟨Nat.le_of_ble_eq_true rfl, Nat.le_of_ble_eq_true rfl⟩) ⟨fun av U g mk q => by obtain ⟨q0, q1, qP, qK, qN⟩ := q; exact ⟨q0, q1, qP, va_K.moved (u := U) (U := U.calling g mk av) (Vm.Alike.refl U.vm) qK, mN_same qN⟩, va_recv hK hP (ci := 6) (q0 := 45) rfl at_45, fun U hU hW => ⟨rfl, by rw [hU], by rw [hU]; exact hP, va_K.moved hW.alike hK, mN_warm hW hN⟩⟩ rfl rfl hl.1 rfl (lv_room (Nat.le_of_ble_eq_true rfl)) dX6_turn_56 ⟨Nat.le_of_ble_eq_true rfl, Nat.le_of_ble_eq_true rfl⟩) hS (fun q _ h => hFc q h) hFc (fun r_18 v_18 t H locs ht hvm hw_18 hP _ _ hS => ?_)
                have hP := kt_heap2 ht hP
                clear ht hFc
                have hP : va_P (dC, dI) vwCl (mW cI cZ cS cC cJ a v_18) H := hP
                have ev_18 := kt_only hw_18.1
                have hB := hB.put ev_18 (by decide)
                have hL := hL.put ev_18 (by decide)
                refine lv_if_ne (tgt := 71) hx hb dX6_turn_59 (by decide) (fun c_19 => ?_) (fun c_19 => ?_)
                · refine lv_iconst (v := (-1)) hx hb dX6_turn_71 (by decide) ?_
                  rw [hQ9]
                  exact W.iret (v := (-1)) hx hb hr (fun t ht hW => ⟨⟨(-1), v_18, rfl, ⟨(hB.up (by omega)), hL⟩, kt_heap ht hP⟩, hS.F ht⟩) hS.2.2 dX6_turn_72
                · refine lv_aload_n hx hb dX6_turn_62 rfl (lv_at hl 1 rfl) ?_
                  refine lv_iload_n hx hb dX6_turn_63 rfl (lv_at hl 0 rfl) ?_
                  refine lv_iload_n hx hb dX6_turn_64 rfl (lv_at hl 2 rfl) ?_
                  have hFc := mA_free (a := a) hS hA hAc
                  refine va_calli (va_runV (As := [.int k1, .int p0]) (rest := []) ⟨hx, hb, hml, hown, hts⟩ (c_X6_hangsOn l dC dI cI cZ cS cC cJ a v_18 H.size k1 p0 hD gn (by omega) hB.self i1 (by omega) ek1 ix_3 (by omega) ex_3) (cwV 2 hts (gV (fun w h => List.mem_cons_of_mem _ h) kw_t3_187 kw_t3_189 kw_s0_13 kw_t1_7 kw_t3_190) rfl rfl rfl (by decide +kernel) ⟨Nat.le_of_ble_eq_true rfl, Nat.le_of_ble_eq_true rfl⟩) ⟨fun av U g mk q => by obtain ⟨q0, q1, qP, qK, qN⟩ := q; exact ⟨q0, q1, qP, va_K.moved (u := U) (U := U.calling g mk av) (Vm.Alike.refl U.vm) qK, mN_same qN⟩, va_recv hK hP (ci := 6) (q0 := 45) rfl at_45, fun U hU hW => ⟨rfl, by rw [hU], by rw [hU]; exact hP, va_K.moved hW.alike hK, mN_warm hW hN⟩⟩ rfl rfl hl.1 rfl (lv_room (Nat.le_of_ble_eq_true rfl)) dX6_turn_65 ⟨Nat.le_of_ble_eq_true rfl, Nat.le_of_ble_eq_true rfl⟩) hS (fun q _ h => hFc q h) hFc (fun r_20 v_20 t H locs ht hvm hw_20 hP _ _ hS => ?_)
                  have hP := kt_heap2 ht hP
                  clear ht hFc
                  have hP : va_P (dC, dI) vwCl (mW cI cZ cS cC cJ a v_20) H := hP
                  have ev_20 := kt_only hw_20.1
                  have hB := hB.put ev_20 (by decide)
                  have hL := hL.put ev_20 (by decide)
                  refine lv_if_eq (tgt := 73) hx hb dX6_turn_68 (by decide) (fun c_21 => ?_) (fun c_21 => ?_)
                  · obtain ⟨t_22, et_22⟩ : ∃ y : Int32, y = k1 + 1 := ⟨_, rfl⟩
                    refine lv_iinc (v := t_22) (lv' := [(2, .int t_22), (0, .ref (a 45)), (1, .int p0)]) hx hb dX6_turn_73 hl (k := 0) rfl (by rw [et_22]; rfl) (by decide) rfl (fun ls hl => ?_)
                    refine lv_goto (tgt := 36) hx hb dX6_turn_76 (by decide) ?_
                    exact ih1 (i1 + 1) t_22 v_20 _ _ _ (by omega) (by omega) (by rw [et_22, ek1]; exact nI_1 i1) hP hS (lv_sub hl [0, 1, 2] rfl) hB hL (by rw [ev_20, mU_ne _ _ (by first | decide | omega), ev_18, mU_ne _ _ (by first | decide | omega)]; exact hJ1)
                  · refine lv_iconst (v := (-1)) hx hb dX6_turn_71 (by decide) ?_
                    rw [hQ9]
                    exact W.iret (v := (-1)) hx hb hr (fun t ht hW => ⟨⟨(-1), v_20, rfl, ⟨(hB.up (by omega)), hL⟩, kt_heap ht hP⟩, hS.F ht⟩) hS.2.2 dX6_turn_72
        exact key1 (12 + 1) 0 0 v_1 _ _ _ (Nat.zero_le _) (by omega) rfl hP hS (lv_sub hl [0, 1, 2] rfl) hB hL rfl
      · refine lv_iconst (v := (-1)) hx hb dX6_turn_32 (by decide) ?_
        rw [hQ9]
        exact W.iret (v := (-1)) hx hb hr (fun t ht hW => ⟨⟨(-1), v_1, rfl, ⟨(hB.up (by omega)), hL⟩, kt_heap ht hP⟩, hS.F ht⟩) hS.2.2 dX6_turn_33

set_option maxHeartbeats 4000000 in
set_option maxRecDepth 100000 in
theorem c_X6_stolen (l : Launch) (dC : Nat → ClassId) (dI : Nat → Nat → Nat) (cI cZ cS cC cJ : ClassId) (a : Nat → Nat) (v : Nat → Nat → Int32) (sz : Nat) (p0 : Int32) (hD : mDD a) (gn : Nat) (hn : gn < 100000) (hB : rB gn v v) (hL : rL v) : Met l yX6_stolen (Cond.code yX6_stolen cX6_stolen 2 (some .int) :: WW) ({ frames := 4, cells := 0, slots := 0, locals := 120 }) (va_Pc [.ref (a 45), .int p0] (fun U => U.heap.size = sz ∧ va_P (dC, dI) vwCl (mW cI cZ cS cC cJ a v) U.heap ∧ va_K (dC, dI) vwCl [(cI, .int), (cZ, .boolean), (cS, .object RX3), (cC, .object RX0), (cJ, .long)] U ∧ mN U)) (va_Qi (fun (r : Int32) (u : Nat → Nat → Int32) => (rB (gn + 1) v u) ∧ (rL u)) (fun (u : Nat → Nat → Int32) (t : State) => va_P (dC, dI) vwCl (mW cI cZ cS cC cJ a u) t.heap) (mA a sz)) 0 0 (mA a sz) := by
  refine Met.ofW (cc := cX6_stolen) (maxL := 2) (ret := (some .int)) (by decide) rfl ?_
  intro p e s m args below meth c s₁ B hml hv
  obtain ⟨rfl, hsz, hP, hK, hN⟩ := hv
  have hx := B.exec
  have hb := B.bytes
  have hr := B.returns
  have hts := atoms_spec (ws := Cond.code yX6_stolen cX6_stolen 2 (some .int) :: WW) B.pre
  have hown : s.vm.findClass RX6 = some m.cls := findClass_of_methodNamed B.named
  have hlocks := B.notSynchronized
  subst hsz
  have hAc : ∀ c, c < 81 → mA a s.heap.size (a c) := fun c h => Or.inl ⟨c, h, rfl⟩
  have hA : ∀ q : Nat, s.heap.size ≤ q → mA a s.heap.size q := fun q h => Or.inr h
  generalize hAe : mA a s.heap.size = A at hAc hA ⊢
  have hS : va_S A s.heap s.heap [] := va_S.rf
  have hl := lv_entry ([.ref (a 45), .int p0]) (n := 2) (Nat.le_of_ble_eq_true rfl)
  rw [lg_entry_eq]
  generalize (lg_sl ([.ref (a 45), .int p0]) ++ List.replicate (2 - (lg_sl ([.ref (a 45), .int p0])).length) Slot.unset).toArray = ls at hl ⊢
  have hl : lv_has ls 2 [(0, .ref (a 45)), (1, .int p0)] := hl
  refine lv_aload_n hx hb dX6_stolen_0 rfl (lv_at hl 0 rfl) ?_
  refine lv_iconst (v := 0) hx hb dX6_stolen_1 (by decide) ?_
  refine va_put (D := (dC, dI)) (ci := 6) (v := .int 0) (ty := .int) (C := RX6) (T := TX6) (N := 43) hx hb hts (fun w h => List.mem_cons_of_mem _ (inWX6 w h)) tyX6 tyX6_ok nmX6 hown hK hP (mD_of hD hAc) hS 45 at_45 rfl 0 (by decide) (hts _ (List.mem_cons_of_mem _ kw_t3_41)) (fun _ h9 => h9) rfl (by decide +kernel) rfl rfl (Nat.le_of_ble_eq_true rfl) dX6_stolen_2 (fun H locs hP _ hS => ?_)
  obtain ⟨v_1, ev_1⟩ : ∃ z, z = mU v 45 (upd (v 45) 0 0) := ⟨_, rfl⟩
  have hP : va_P (dC, dI) vwCl (mW cI cZ cS cC cJ a v_1) H := by rw [ev_1]; exact mW_put hP (by omega) rfl
  have hB := hB.putO ev_1 (by decide)
  have hL := hL.putM ev_1 (by decide)
  refine lv_aload_n hx hb dX6_stolen_5 rfl (lv_at hl 0 rfl) ?_
  refine lv_iload_n hx hb dX6_stolen_6 rfl (lv_at hl 1 rfl) ?_
  have hFc := mA_free (a := a) hS hA hAc
  refine va_calli (va_runV (As := [.int p0]) (rest := []) ⟨hx, hb, hml, hown, hts⟩ (c_X6_isSecret l dC dI cI cZ cS cC cJ a v_1 H.size p0 hD gn (by omega) hB.self) (cwV 1 hts (gV (fun w h => List.mem_cons_of_mem _ h) kw_t3_183 kw_t3_185 kw_s0_12 kw_t1_7 kw_t3_186) rfl rfl rfl (by decide +kernel) ⟨Nat.le_of_ble_eq_true rfl, Nat.le_of_ble_eq_true rfl⟩) ⟨fun av U g mk q => by obtain ⟨q0, q1, qP, qK, qN⟩ := q; exact ⟨q0, q1, qP, va_K.moved (u := U) (U := U.calling g mk av) (Vm.Alike.refl U.vm) qK, mN_same qN⟩, va_recv hK hP (ci := 6) (q0 := 45) rfl at_45, fun U hU hW => ⟨rfl, by rw [hU], by rw [hU]; exact hP, va_K.moved hW.alike hK, mN_warm hW hN⟩⟩ rfl rfl hl.1 rfl (lv_room (Nat.le_of_ble_eq_true rfl)) dX6_stolen_7 ⟨Nat.le_of_ble_eq_true rfl, Nat.le_of_ble_eq_true rfl⟩) hS (fun q _ h => hFc q h) hFc (fun r_2 _ t H locs ht hvm hw_2 hP _ _ hS => ?_)
  have hP := kt_heap2 ht hP
  clear ht hFc
  have hP : va_P (dC, dI) vwCl (mW cI cZ cS cC cJ a v_1) H := hP
  rcases hw_2 with ⟨hz_3, hns_3⟩ | ⟨hz_3, ix_3, hx_3, ex_3, hlt_3⟩
  · subst hz_3
    refine lv_if_eq (tgt := 23) hx hb dX6_stolen_10 (by decide) (fun c_4 => ?_) (fun c_4 => absurd (by decide) c_4)
    refine lv_iconst (v := (-1)) hx hb dX6_stolen_23 (by decide) ?_
    exact W.iret (v := (-1)) hx hb hr (fun t ht hW => ⟨⟨(-1), v_1, rfl, ⟨(hB.up (by omega)), hL⟩, kt_heap ht hP⟩, hS.F ht⟩) hS.2.2 dX6_stolen_24
  · subst hz_3
    refine lv_if_eq (tgt := 23) hx hb dX6_stolen_10 (by decide) (fun c_5 => absurd c_5 (by decide)) (fun c_5 => ?_)
    refine lv_aload_n hx hb dX6_stolen_13 rfl (lv_at hl 0 rfl) ?_
    refine va_get (D := (dC, dI)) (ci := 6) (v := .ref (a 60)) (C := RX6) (T := TX6) (N := 43) hx hb hts (fun w h => List.mem_cons_of_mem _ (inWX6 w h)) hown hK hP 45 at_45 rfl 23 (by decide) (hts _ (List.mem_cons_of_mem _ kw_t3_64)) (fun _ h9 => h9) rfl dX6_stolen_14 ?_
    refine lv_bipush (v := 16) hx hb dX6_stolen_17 (by decide) ?_
    refine va_zald hx hb hK hP 60 1 at_60 rfl (by unfold vp_in; decide) dX6_stolen_19 ?_
    refine lv_topi (fun t_6 et_6 => ?_)
    have et_6 : t_6 = v_1 60 16 := et_6
    refine lv_if_eq (tgt := 25) hx hb dX6_stolen_20 (by decide) (fun c_7 => ?_) (fun c_7 => ?_)
    · refine lv_aload_n hx hb dX6_stolen_25 rfl (lv_at hl 0 rfl) ?_
      refine va_get (D := (dC, dI)) (ci := 6) (v := .ref (a 52)) (C := RX6) (T := TX6) (N := 43) hx hb hts (fun w h => List.mem_cons_of_mem _ (inWX6 w h)) hown hK hP 45 at_45 rfl 15 (by decide) (hts _ (List.mem_cons_of_mem _ kw_t3_56)) (fun _ h9 => h9) rfl dX6_stolen_26 ?_
      refine lv_iload_n hx hb dX6_stolen_29 rfl (lv_at hl 1 rfl) ?_
      refine va_iald hx hb hK hP 52 0 at_52 rfl (kt_inN ex_3 (by omega) (by decide)) dX6_stolen_30 ?_
      refine lv_topi (fun t_8 et_8 => ?_)
      rw [ex_3, nI_clamp (by omega)] at et_8
      refine lv_if_ne (tgt := 47) hx hb dX6_stolen_31 (by decide) (fun c_9 => ?_) (fun c_9 => ?_)
      · refine lv_aload_n hx hb dX6_stolen_47 rfl (lv_at hl 0 rfl) ?_
        refine va_get (D := (dC, dI)) (ci := 6) (v := .ref (a 57)) (C := RX6) (T := TX6) (N := 43) hx hb hts (fun w h => List.mem_cons_of_mem _ (inWX6 w h)) hown hK hP 45 at_45 rfl 20 (by decide) (hts _ (List.mem_cons_of_mem _ kw_t3_61)) (fun _ h9 => h9) rfl dX6_stolen_48 ?_
        refine lv_iload_n hx hb dX6_stolen_51 rfl (lv_at hl 1 rfl) ?_
        refine va_iald hx hb hK hP 57 0 at_57 rfl (kt_inN ex_3 (by omega) (by decide)) dX6_stolen_52 ?_
        refine lv_topi (fun t_10 et_10 => ?_)
        rw [ex_3, nI_clamp (by omega)] at et_10
        have hsc_10 : 0 ≤ t_10.toInt := by rw [et_10]; exact hB.to _ (by omega)
        refine lv_sipush (v := 500) hx hb dX6_stolen_53 (by decide) ?_
        refine lv_icmp_ge (tgt := 71) hx hb dX6_stolen_56 (by decide) (fun c_11 => ?_) (fun c_11 => ?_)
        · refine lv_aload_n hx hb dX6_stolen_71 rfl (lv_at hl 0 rfl) ?_
          refine va_get (D := (dC, dI)) (ci := 6) (v := .ref (a 46)) (C := RX6) (T := TX6) (N := 43) hx hb hts (fun w h => List.mem_cons_of_mem _ (inWX6 w h)) hown hK hP 45 at_45 rfl 9 (by decide) (hts _ (List.mem_cons_of_mem _ kw_t3_50)) (fun _ h9 => h9) rfl dX6_stolen_72 ?_
          refine lv_iload_n hx hb dX6_stolen_75 rfl (lv_at hl 1 rfl) ?_
          refine va_iald hx hb hK hP 46 0 at_46 rfl (kt_inN ex_3 (by omega) (by decide)) dX6_stolen_76 ?_
          refine lv_topi (fun t_12 et_12 => ?_)
          rw [ex_3, nI_clamp (by omega)] at et_12
          refine lv_if_ne (tgt := 125) hx hb dX6_stolen_77 (by decide) (fun c_13 => ?_) (fun c_13 => ?_)
          · refine lv_aload_n hx hb dX6_stolen_125 rfl (lv_at hl 0 rfl) ?_
            refine va_get (D := (dC, dI)) (ci := 6) (v := .ref (a 50)) (C := RX6) (T := TX6) (N := 43) hx hb hts (fun w h => List.mem_cons_of_mem _ (inWX6 w h)) hown hK hP 45 at_45 rfl 13 (by decide) (hts _ (List.mem_cons_of_mem _ kw_t3_54)) (fun _ h9 => h9) rfl dX6_stolen_126 ?_
            refine lv_iload_n hx hb dX6_stolen_129 rfl (lv_at hl 1 rfl) ?_
            refine va_iald hx hb hK hP 50 0 at_50 rfl (kt_inN ex_3 (by omega) (by decide)) dX6_stolen_130 ?_
            refine lv_topi (fun t_14 et_14 => ?_)
            rw [ex_3, nI_clamp (by omega)] at et_14
            exact W.iret (v := t_14) hx hb hr (fun t ht hW => ⟨⟨t_14, v_1, rfl, ⟨(hB.up (by omega)), hL⟩, kt_heap ht hP⟩, hS.F ht⟩) hS.2.2 dX6_stolen_131
          · refine lv_aload_n hx hb dX6_stolen_80 rfl (lv_at hl 0 rfl) ?_
            refine va_get (D := (dC, dI)) (ci := 6) (v := .ref (a 58)) (C := RX6) (T := TX6) (N := 43) hx hb hts (fun w h => List.mem_cons_of_mem _ (inWX6 w h)) hown hK hP 45 at_45 rfl 21 (by decide) (hts _ (List.mem_cons_of_mem _ kw_t3_62)) (fun _ h9 => h9) rfl dX6_stolen_81 ?_
            refine lv_iload_n hx hb dX6_stolen_84 rfl (lv_at hl 1 rfl) ?_
            refine va_zald hx hb hK hP 58 1 at_58 rfl (kt_inN ex_3 (by omega) (by decide)) dX6_stolen_85 ?_
            refine lv_topi (fun t_15 et_15 => ?_)
            rw [ex_3, nI_clamp (by omega)] at et_15
            refine lv_if_ne (tgt := 125) hx hb dX6_stolen_86 (by decide) (fun c_16 => ?_) (fun c_16 => ?_)
            · refine lv_aload_n hx hb dX6_stolen_125 rfl (lv_at hl 0 rfl) ?_
              refine va_get (D := (dC, dI)) (ci := 6) (v := .ref (a 50)) (C := RX6) (T := TX6) (N := 43) hx hb hts (fun w h => List.mem_cons_of_mem _ (inWX6 w h)) hown hK hP 45 at_45 rfl 13 (by decide) (hts _ (List.mem_cons_of_mem _ kw_t3_54)) (fun _ h9 => h9) rfl dX6_stolen_126 ?_
              refine lv_iload_n hx hb dX6_stolen_129 rfl (lv_at hl 1 rfl) ?_
              refine va_iald hx hb hK hP 50 0 at_50 rfl (kt_inN ex_3 (by omega) (by decide)) dX6_stolen_130 ?_
              refine lv_topi (fun t_17 et_17 => ?_)
              rw [ex_3, nI_clamp (by omega)] at et_17
              exact W.iret (v := t_17) hx hb hr (fun t ht hW => ⟨⟨t_17, v_1, rfl, ⟨(hB.up (by omega)), hL⟩, kt_heap ht hP⟩, hS.F ht⟩) hS.2.2 dX6_stolen_131
            · refine lv_aload_n hx hb dX6_stolen_89 rfl (lv_at hl 0 rfl) ?_
              refine va_get (D := (dC, dI)) (ci := 6) (v := .ref (a 52)) (C := RX6) (T := TX6) (N := 43) hx hb hts (fun w h => List.mem_cons_of_mem _ (inWX6 w h)) hown hK hP 45 at_45 rfl 15 (by decide) (hts _ (List.mem_cons_of_mem _ kw_t3_56)) (fun _ h9 => h9) rfl dX6_stolen_90 ?_
              refine lv_iload_n hx hb dX6_stolen_93 rfl (lv_at hl 1 rfl) ?_
              refine va_iald hx hb hK hP 52 0 at_52 rfl (kt_inN ex_3 (by omega) (by decide)) dX6_stolen_94 ?_
              refine lv_topi (fun t_18 et_18 => ?_)
              rw [ex_3, nI_clamp (by omega)] at et_18
              obtain rfl : t_8 = t_18 := et_8.trans et_18.symm
              refine lv_iconst (v := 1) hx hb dX6_stolen_95 (by decide) ?_
              refine lv_icmp_ne (tgt := 109) hx hb dX6_stolen_96 (by decide) (fun c_19 => ?_) (fun c_19 => ?_)
              · refine lv_aload_n hx hb dX6_stolen_109 rfl (lv_at hl 0 rfl) ?_
                refine va_get (D := (dC, dI)) (ci := 6) (v := .ref (a 52)) (C := RX6) (T := TX6) (N := 43) hx hb hts (fun w h => List.mem_cons_of_mem _ (inWX6 w h)) hown hK hP 45 at_45 rfl 15 (by decide) (hts _ (List.mem_cons_of_mem _ kw_t3_56)) (fun _ h9 => h9) rfl dX6_stolen_110 ?_
                refine lv_iload_n hx hb dX6_stolen_113 rfl (lv_at hl 1 rfl) ?_
                refine va_iald hx hb hK hP 52 0 at_52 rfl (kt_inN ex_3 (by omega) (by decide)) dX6_stolen_114 ?_
                refine lv_topi (fun t_20 et_20 => ?_)
                rw [ex_3, nI_clamp (by omega)] at et_20
                obtain rfl : t_8 = t_20 := et_8.trans et_20.symm
                refine lv_iconst (v := 4) hx hb dX6_stolen_115 (by decide) ?_
                refine lv_icmp_ge (tgt := 125) hx hb dX6_stolen_116 (by decide) (fun c_21 => ?_) (fun c_21 => ?_)
                · refine lv_aload_n hx hb dX6_stolen_125 rfl (lv_at hl 0 rfl) ?_
                  refine va_get (D := (dC, dI)) (ci := 6) (v := .ref (a 50)) (C := RX6) (T := TX6) (N := 43) hx hb hts (fun w h => List.mem_cons_of_mem _ (inWX6 w h)) hown hK hP 45 at_45 rfl 13 (by decide) (hts _ (List.mem_cons_of_mem _ kw_t3_54)) (fun _ h9 => h9) rfl dX6_stolen_126 ?_
                  refine lv_iload_n hx hb dX6_stolen_129 rfl (lv_at hl 1 rfl) ?_
                  refine va_iald hx hb hK hP 50 0 at_50 rfl (kt_inN ex_3 (by omega) (by decide)) dX6_stolen_130 ?_
                  refine lv_topi (fun t_22 et_22 => ?_)
                  rw [ex_3, nI_clamp (by omega)] at et_22
                  exact W.iret (v := t_22) hx hb hr (fun t ht hW => ⟨⟨t_22, v_1, rfl, ⟨(hB.up (by omega)), hL⟩, kt_heap ht hP⟩, hS.F ht⟩) hS.2.2 dX6_stolen_131
                · refine lv_aload_n hx hb dX6_stolen_119 rfl (lv_at hl 0 rfl) ?_
                  refine lv_iload_n hx hb dX6_stolen_120 rfl (lv_at hl 1 rfl) ?_
                  refine lv_iconst (v := 4) hx hb dX6_stolen_121 (by decide) ?_
                  have hFc := mA_free (a := a) hS hA hAc
                  refine va_callv (va_runV (As := [.int p0, .int 4]) (rest := []) ⟨hx, hb, hml, hown, hts⟩ (c_X6_begins l dC dI cI cZ cS cC cJ a v_1 H.size p0 4 hD gn (by omega) hB.self ix_3 (by omega) ex_3 10 (rL.ten hL (by rw [← et_8]; unfold bd; rw [if_neg c_9, if_neg (fun z => c_21 (by rw [z]; decide))]; exact Int.le_refl _)) (Or.inr ⟨rfl, rfl⟩)) (cwV 2 hts (gV (fun w h => List.mem_cons_of_mem _ h) kw_t3_236 kw_t3_238 kw_s0_19 kw_t1_7 kw_t3_239) rfl rfl rfl (by decide +kernel) ⟨Nat.le_of_ble_eq_true rfl, Nat.le_of_ble_eq_true rfl⟩) ⟨fun av U g mk q => by obtain ⟨q0, q1, qP, qK, qN⟩ := q; exact ⟨q0, q1, qP, va_K.moved (u := U) (U := U.calling g mk av) (Vm.Alike.refl U.vm) qK, mN_same qN⟩, va_recv hK hP (ci := 6) (q0 := 45) rfl at_45, fun U hU hW => ⟨rfl, by rw [hU], by rw [hU]; exact hP, va_K.moved hW.alike hK, mN_warm hW hN⟩⟩ rfl rfl hl.1 rfl (lv_room (Nat.le_of_ble_eq_true rfl)) dX6_stolen_122 ⟨Nat.le_of_ble_eq_true rfl, Nat.le_of_ble_eq_true rfl⟩) hS (fun q _ h => hFc q h) hFc (fun v_23 t H locs ht hvm hw_23 hP _ _ hS => ?_)
                  have hP := kt_heap2 ht hP
                  clear ht hFc
                  have hP : va_P (dC, dI) vwCl (mW cI cZ cS cC cJ a v_23) H := hP
                  have hB := hB.trans hw_23.1
                  have hL := hw_23.2.1
                  refine lv_aload_n hx hb dX6_stolen_125 rfl (lv_at hl 0 rfl) ?_
                  refine va_get (D := (dC, dI)) (ci := 6) (v := .ref (a 50)) (C := RX6) (T := TX6) (N := 43) hx hb hts (fun w h => List.mem_cons_of_mem _ (inWX6 w h)) hown hK hP 45 at_45 rfl 13 (by decide) (hts _ (List.mem_cons_of_mem _ kw_t3_54)) (fun _ h9 => h9) rfl dX6_stolen_126 ?_
                  refine lv_iload_n hx hb dX6_stolen_129 rfl (lv_at hl 1 rfl) ?_
                  refine va_iald hx hb hK hP 50 0 at_50 rfl (kt_inN ex_3 (by omega) (by decide)) dX6_stolen_130 ?_
                  refine lv_topi (fun t_25 et_25 => ?_)
                  rw [ex_3, nI_clamp (by omega)] at et_25
                  exact W.iret (v := t_25) hx hb hr (fun t ht hW => ⟨⟨t_25, v_23, rfl, ⟨(hB.up (by omega)), hL⟩, kt_heap ht hP⟩, hS.F ht⟩) hS.2.2 dX6_stolen_131
              · refine lv_aload_n hx hb dX6_stolen_99 rfl (lv_at hl 0 rfl) ?_
                refine va_get (D := (dC, dI)) (ci := 6) (v := .ref (a 58)) (C := RX6) (T := TX6) (N := 43) hx hb hts (fun w h => List.mem_cons_of_mem _ (inWX6 w h)) hown hK hP 45 at_45 rfl 21 (by decide) (hts _ (List.mem_cons_of_mem _ kw_t3_62)) (fun _ h9 => h9) rfl dX6_stolen_100 ?_
                refine lv_iload_n hx hb dX6_stolen_103 rfl (lv_at hl 1 rfl) ?_
                refine lv_iconst (v := 1) hx hb dX6_stolen_104 (by decide) ?_
                refine va_zast hx hb hK hP (mD_of hD hAc) hS 58 1 at_58 rfl (kt_inN ex_3 (by omega) (by decide)) dX6_stolen_105 (fun H locs hP _ hS => ?_)
                obtain ⟨v_26, ev_26⟩ : ∃ z, z = mU v_1 58 (upd (v_1 58) ix_3 (vp_nar .boolean 1)) := ⟨_, rfl⟩
                have hP : va_P (dC, dI) vwCl (mW cI cZ cS cC cJ a v_26) H := by rw [ev_26]; exact mW_put hP (by omega) (by rw [ex_3, nI_clamp (by omega)]; rfl)
                have hB := hB.put ev_26 (by decide)
                have hL := hL.put ev_26 (by decide)
                refine lv_goto (tgt := 125) hx hb dX6_stolen_106 (by decide) ?_
                refine lv_aload_n hx hb dX6_stolen_125 rfl (lv_at hl 0 rfl) ?_
                refine va_get (D := (dC, dI)) (ci := 6) (v := .ref (a 50)) (C := RX6) (T := TX6) (N := 43) hx hb hts (fun w h => List.mem_cons_of_mem _ (inWX6 w h)) hown hK hP 45 at_45 rfl 13 (by decide) (hts _ (List.mem_cons_of_mem _ kw_t3_54)) (fun _ h9 => h9) rfl dX6_stolen_126 ?_
                refine lv_iload_n hx hb dX6_stolen_129 rfl (lv_at hl 1 rfl) ?_
                refine va_iald hx hb hK hP 50 0 at_50 rfl (kt_inN ex_3 (by omega) (by decide)) dX6_stolen_130 ?_
                refine lv_topi (fun t_27 et_27 => ?_)
                rw [ex_3, nI_clamp (by omega)] at et_27
                exact W.iret (v := t_27) hx hb hr (fun t ht hW => ⟨⟨t_27, v_26, rfl, ⟨(hB.up (by omega)), hL⟩, kt_heap ht hP⟩, hS.F ht⟩) hS.2.2 dX6_stolen_131
        · refine lv_aload_n hx hb dX6_stolen_59 rfl (lv_at hl 0 rfl) ?_
          refine va_get (D := (dC, dI)) (ci := 6) (v := .ref (a 77)) (C := RX6) (T := TX6) (N := 43) hx hb hts (fun w h => List.mem_cons_of_mem _ (inWX6 w h)) hown hK hP 45 at_45 rfl 40 (by decide) (hts _ (List.mem_cons_of_mem _ kw_t3_81)) (fun _ h9 => h9) rfl dX6_stolen_60 ?_
          refine lv_aload_n hx hb dX6_stolen_63 rfl (lv_at hl 0 rfl) ?_
          refine va_get (D := (dC, dI)) (ci := 6) (v := .ref (a 57)) (C := RX6) (T := TX6) (N := 43) hx hb hts (fun w h => List.mem_cons_of_mem _ (inWX6 w h)) hown hK hP 45 at_45 rfl 20 (by decide) (hts _ (List.mem_cons_of_mem _ kw_t3_61)) (fun _ h9 => h9) rfl dX6_stolen_64 ?_
          refine lv_iload_n hx hb dX6_stolen_67 rfl (lv_at hl 1 rfl) ?_
          refine va_iald hx hb hK hP 57 0 at_57 rfl (kt_inN ex_3 (by omega) (by decide)) dX6_stolen_68 ?_
          refine lv_topi (fun t_28 et_28 => ?_)
          rw [ex_3, nI_clamp (by omega)] at et_28
          obtain rfl : t_10 = t_28 := et_10.trans et_28.symm
          refine lv_iconst (v := 1) hx hb dX6_stolen_69 (by decide) ?_
          obtain ⟨ix_30, hx_30, ex_30⟩ := kt_idx (x := t_10) (n := 500) (by have z0 := c_7; have z1 := c_9; have z2 := hsc_10; have z3 := c_11; (try simp only [Int32.lt_iff_toInt_lt, Int32.le_iff_toInt_le, ← Int32.toInt_inj, L0, L1, L2, L3, L4, L6, L9, L500, L5, L7, L10, L12, L15, L16, L20, L63, L1000, L1023, L2000, L10000, L100000, Lm1] at z0 z1 z2 z3); omega) (by have z0 := c_7; have z1 := c_9; have z2 := hsc_10; have z3 := c_11; (try simp only [Int32.lt_iff_toInt_lt, Int32.le_iff_toInt_le, ← Int32.toInt_inj, L0, L1, L2, L3, L4, L6, L9, L500, L5, L7, L10, L12, L15, L16, L20, L63, L1000, L1023, L2000, L10000, L100000, Lm1] at z0 z1 z2 z3); omega)
          refine va_zast hx hb hK hP (mD_of hD hAc) hS 77 1 at_77 rfl (kt_inN ex_30 (by omega) (by decide)) dX6_stolen_70 (fun H locs hP _ hS => ?_)
          obtain ⟨v_31, ev_31⟩ : ∃ z, z = mU v_1 77 (upd (v_1 77) ix_30 (vp_nar .boolean 1)) := ⟨_, rfl⟩
          have hP : va_P (dC, dI) vwCl (mW cI cZ cS cC cJ a v_31) H := by rw [ev_31]; exact mW_put hP (by omega) (by rw [ex_30, nI_clamp (by omega)]; rfl)
          have hB := hB.put ev_31 (by decide)
          have hL := hL.put ev_31 (by decide)
          refine lv_aload_n hx hb dX6_stolen_71 rfl (lv_at hl 0 rfl) ?_
          refine va_get (D := (dC, dI)) (ci := 6) (v := .ref (a 46)) (C := RX6) (T := TX6) (N := 43) hx hb hts (fun w h => List.mem_cons_of_mem _ (inWX6 w h)) hown hK hP 45 at_45 rfl 9 (by decide) (hts _ (List.mem_cons_of_mem _ kw_t3_50)) (fun _ h9 => h9) rfl dX6_stolen_72 ?_
          refine lv_iload_n hx hb dX6_stolen_75 rfl (lv_at hl 1 rfl) ?_
          refine va_iald hx hb hK hP 46 0 at_46 rfl (kt_inN ex_3 (by omega) (by decide)) dX6_stolen_76 ?_
          refine lv_topi (fun t_32 et_32 => ?_)
          rw [ex_3, nI_clamp (by omega)] at et_32
          refine lv_if_ne (tgt := 125) hx hb dX6_stolen_77 (by decide) (fun c_33 => ?_) (fun c_33 => ?_)
          · refine lv_aload_n hx hb dX6_stolen_125 rfl (lv_at hl 0 rfl) ?_
            refine va_get (D := (dC, dI)) (ci := 6) (v := .ref (a 50)) (C := RX6) (T := TX6) (N := 43) hx hb hts (fun w h => List.mem_cons_of_mem _ (inWX6 w h)) hown hK hP 45 at_45 rfl 13 (by decide) (hts _ (List.mem_cons_of_mem _ kw_t3_54)) (fun _ h9 => h9) rfl dX6_stolen_126 ?_
            refine lv_iload_n hx hb dX6_stolen_129 rfl (lv_at hl 1 rfl) ?_
            refine va_iald hx hb hK hP 50 0 at_50 rfl (kt_inN ex_3 (by omega) (by decide)) dX6_stolen_130 ?_
            refine lv_topi (fun t_34 et_34 => ?_)
            rw [ex_3, nI_clamp (by omega)] at et_34
            exact W.iret (v := t_34) hx hb hr (fun t ht hW => ⟨⟨t_34, v_31, rfl, ⟨(hB.up (by omega)), hL⟩, kt_heap ht hP⟩, hS.F ht⟩) hS.2.2 dX6_stolen_131
          · refine lv_aload_n hx hb dX6_stolen_80 rfl (lv_at hl 0 rfl) ?_
            refine va_get (D := (dC, dI)) (ci := 6) (v := .ref (a 58)) (C := RX6) (T := TX6) (N := 43) hx hb hts (fun w h => List.mem_cons_of_mem _ (inWX6 w h)) hown hK hP 45 at_45 rfl 21 (by decide) (hts _ (List.mem_cons_of_mem _ kw_t3_62)) (fun _ h9 => h9) rfl dX6_stolen_81 ?_
            refine lv_iload_n hx hb dX6_stolen_84 rfl (lv_at hl 1 rfl) ?_
            refine va_zald hx hb hK hP 58 1 at_58 rfl (kt_inN ex_3 (by omega) (by decide)) dX6_stolen_85 ?_
            refine lv_topi (fun t_35 et_35 => ?_)
            rw [ex_3, nI_clamp (by omega)] at et_35
            refine lv_if_ne (tgt := 125) hx hb dX6_stolen_86 (by decide) (fun c_36 => ?_) (fun c_36 => ?_)
            · refine lv_aload_n hx hb dX6_stolen_125 rfl (lv_at hl 0 rfl) ?_
              refine va_get (D := (dC, dI)) (ci := 6) (v := .ref (a 50)) (C := RX6) (T := TX6) (N := 43) hx hb hts (fun w h => List.mem_cons_of_mem _ (inWX6 w h)) hown hK hP 45 at_45 rfl 13 (by decide) (hts _ (List.mem_cons_of_mem _ kw_t3_54)) (fun _ h9 => h9) rfl dX6_stolen_126 ?_
              refine lv_iload_n hx hb dX6_stolen_129 rfl (lv_at hl 1 rfl) ?_
              refine va_iald hx hb hK hP 50 0 at_50 rfl (kt_inN ex_3 (by omega) (by decide)) dX6_stolen_130 ?_
              refine lv_topi (fun t_37 et_37 => ?_)
              rw [ex_3, nI_clamp (by omega)] at et_37
              exact W.iret (v := t_37) hx hb hr (fun t ht hW => ⟨⟨t_37, v_31, rfl, ⟨(hB.up (by omega)), hL⟩, kt_heap ht hP⟩, hS.F ht⟩) hS.2.2 dX6_stolen_131
            · refine lv_aload_n hx hb dX6_stolen_89 rfl (lv_at hl 0 rfl) ?_
              refine va_get (D := (dC, dI)) (ci := 6) (v := .ref (a 52)) (C := RX6) (T := TX6) (N := 43) hx hb hts (fun w h => List.mem_cons_of_mem _ (inWX6 w h)) hown hK hP 45 at_45 rfl 15 (by decide) (hts _ (List.mem_cons_of_mem _ kw_t3_56)) (fun _ h9 => h9) rfl dX6_stolen_90 ?_
              refine lv_iload_n hx hb dX6_stolen_93 rfl (lv_at hl 1 rfl) ?_
              refine va_iald hx hb hK hP 52 0 at_52 rfl (kt_inN ex_3 (by omega) (by decide)) dX6_stolen_94 ?_
              refine lv_topi (fun t_38 et_38 => ?_)
              rw [ex_3, nI_clamp (by omega)] at et_38
              refine lv_iconst (v := 1) hx hb dX6_stolen_95 (by decide) ?_
              refine lv_icmp_ne (tgt := 109) hx hb dX6_stolen_96 (by decide) (fun c_39 => ?_) (fun c_39 => ?_)
              · refine lv_aload_n hx hb dX6_stolen_109 rfl (lv_at hl 0 rfl) ?_
                refine va_get (D := (dC, dI)) (ci := 6) (v := .ref (a 52)) (C := RX6) (T := TX6) (N := 43) hx hb hts (fun w h => List.mem_cons_of_mem _ (inWX6 w h)) hown hK hP 45 at_45 rfl 15 (by decide) (hts _ (List.mem_cons_of_mem _ kw_t3_56)) (fun _ h9 => h9) rfl dX6_stolen_110 ?_
                refine lv_iload_n hx hb dX6_stolen_113 rfl (lv_at hl 1 rfl) ?_
                refine va_iald hx hb hK hP 52 0 at_52 rfl (kt_inN ex_3 (by omega) (by decide)) dX6_stolen_114 ?_
                refine lv_topi (fun t_40 et_40 => ?_)
                rw [ex_3, nI_clamp (by omega)] at et_40
                obtain rfl : t_38 = t_40 := et_38.trans et_40.symm
                refine lv_iconst (v := 4) hx hb dX6_stolen_115 (by decide) ?_
                refine lv_icmp_ge (tgt := 125) hx hb dX6_stolen_116 (by decide) (fun c_41 => ?_) (fun c_41 => ?_)
                · refine lv_aload_n hx hb dX6_stolen_125 rfl (lv_at hl 0 rfl) ?_
                  refine va_get (D := (dC, dI)) (ci := 6) (v := .ref (a 50)) (C := RX6) (T := TX6) (N := 43) hx hb hts (fun w h => List.mem_cons_of_mem _ (inWX6 w h)) hown hK hP 45 at_45 rfl 13 (by decide) (hts _ (List.mem_cons_of_mem _ kw_t3_54)) (fun _ h9 => h9) rfl dX6_stolen_126 ?_
                  refine lv_iload_n hx hb dX6_stolen_129 rfl (lv_at hl 1 rfl) ?_
                  refine va_iald hx hb hK hP 50 0 at_50 rfl (kt_inN ex_3 (by omega) (by decide)) dX6_stolen_130 ?_
                  refine lv_topi (fun t_42 et_42 => ?_)
                  rw [ex_3, nI_clamp (by omega)] at et_42
                  exact W.iret (v := t_42) hx hb hr (fun t ht hW => ⟨⟨t_42, v_31, rfl, ⟨(hB.up (by omega)), hL⟩, kt_heap ht hP⟩, hS.F ht⟩) hS.2.2 dX6_stolen_131
                · refine lv_aload_n hx hb dX6_stolen_119 rfl (lv_at hl 0 rfl) ?_
                  refine lv_iload_n hx hb dX6_stolen_120 rfl (lv_at hl 1 rfl) ?_
                  refine lv_iconst (v := 4) hx hb dX6_stolen_121 (by decide) ?_
                  have e9 : t_38 = t_8 := by rw [et_38, show v_31 52 = v_1 52 from (by rw [ev_31, mU_ne _ _ (by first | decide | omega)])]; exact et_8.symm
                  have hFc := mA_free (a := a) hS hA hAc
                  refine va_callv (va_runV (As := [.int p0, .int 4]) (rest := []) ⟨hx, hb, hml, hown, hts⟩ (c_X6_begins l dC dI cI cZ cS cC cJ a v_31 H.size p0 4 hD gn (by omega) hB.self ix_3 (by omega) ex_3 10 (rL.ten hL (by rw [← et_38]; unfold bd; rw [if_neg (by rw [e9]; exact c_9), if_neg (fun z => c_41 (by rw [z]; decide))]; exact Int.le_refl _)) (Or.inr ⟨rfl, rfl⟩)) (cwV 2 hts (gV (fun w h => List.mem_cons_of_mem _ h) kw_t3_236 kw_t3_238 kw_s0_19 kw_t1_7 kw_t3_239) rfl rfl rfl (by decide +kernel) ⟨Nat.le_of_ble_eq_true rfl, Nat.le_of_ble_eq_true rfl⟩) ⟨fun av U g mk q => by obtain ⟨q0, q1, qP, qK, qN⟩ := q; exact ⟨q0, q1, qP, va_K.moved (u := U) (U := U.calling g mk av) (Vm.Alike.refl U.vm) qK, mN_same qN⟩, va_recv hK hP (ci := 6) (q0 := 45) rfl at_45, fun U hU hW => ⟨rfl, by rw [hU], by rw [hU]; exact hP, va_K.moved hW.alike hK, mN_warm hW hN⟩⟩ rfl rfl hl.1 rfl (lv_room (Nat.le_of_ble_eq_true rfl)) dX6_stolen_122 ⟨Nat.le_of_ble_eq_true rfl, Nat.le_of_ble_eq_true rfl⟩) hS (fun q _ h => hFc q h) hFc (fun v_43 t H locs ht hvm hw_43 hP _ _ hS => ?_)
                  have hP := kt_heap2 ht hP
                  clear ht hFc
                  have hP : va_P (dC, dI) vwCl (mW cI cZ cS cC cJ a v_43) H := hP
                  have hB := hB.trans hw_43.1
                  have hL := hw_43.2.1
                  refine lv_aload_n hx hb dX6_stolen_125 rfl (lv_at hl 0 rfl) ?_
                  refine va_get (D := (dC, dI)) (ci := 6) (v := .ref (a 50)) (C := RX6) (T := TX6) (N := 43) hx hb hts (fun w h => List.mem_cons_of_mem _ (inWX6 w h)) hown hK hP 45 at_45 rfl 13 (by decide) (hts _ (List.mem_cons_of_mem _ kw_t3_54)) (fun _ h9 => h9) rfl dX6_stolen_126 ?_
                  refine lv_iload_n hx hb dX6_stolen_129 rfl (lv_at hl 1 rfl) ?_
                  refine va_iald hx hb hK hP 50 0 at_50 rfl (kt_inN ex_3 (by omega) (by decide)) dX6_stolen_130 ?_
                  refine lv_topi (fun t_45 et_45 => ?_)
                  rw [ex_3, nI_clamp (by omega)] at et_45
                  exact W.iret (v := t_45) hx hb hr (fun t ht hW => ⟨⟨t_45, v_43, rfl, ⟨(hB.up (by omega)), hL⟩, kt_heap ht hP⟩, hS.F ht⟩) hS.2.2 dX6_stolen_131
              · refine lv_aload_n hx hb dX6_stolen_99 rfl (lv_at hl 0 rfl) ?_
                refine va_get (D := (dC, dI)) (ci := 6) (v := .ref (a 58)) (C := RX6) (T := TX6) (N := 43) hx hb hts (fun w h => List.mem_cons_of_mem _ (inWX6 w h)) hown hK hP 45 at_45 rfl 21 (by decide) (hts _ (List.mem_cons_of_mem _ kw_t3_62)) (fun _ h9 => h9) rfl dX6_stolen_100 ?_
                refine lv_iload_n hx hb dX6_stolen_103 rfl (lv_at hl 1 rfl) ?_
                refine lv_iconst (v := 1) hx hb dX6_stolen_104 (by decide) ?_
                refine va_zast hx hb hK hP (mD_of hD hAc) hS 58 1 at_58 rfl (kt_inN ex_3 (by omega) (by decide)) dX6_stolen_105 (fun H locs hP _ hS => ?_)
                obtain ⟨v_46, ev_46⟩ : ∃ z, z = mU v_31 58 (upd (v_31 58) ix_3 (vp_nar .boolean 1)) := ⟨_, rfl⟩
                have hP : va_P (dC, dI) vwCl (mW cI cZ cS cC cJ a v_46) H := by rw [ev_46]; exact mW_put hP (by omega) (by rw [ex_3, nI_clamp (by omega)]; rfl)
                have hB := hB.put ev_46 (by decide)
                have hL := hL.put ev_46 (by decide)
                refine lv_goto (tgt := 125) hx hb dX6_stolen_106 (by decide) ?_
                refine lv_aload_n hx hb dX6_stolen_125 rfl (lv_at hl 0 rfl) ?_
                refine va_get (D := (dC, dI)) (ci := 6) (v := .ref (a 50)) (C := RX6) (T := TX6) (N := 43) hx hb hts (fun w h => List.mem_cons_of_mem _ (inWX6 w h)) hown hK hP 45 at_45 rfl 13 (by decide) (hts _ (List.mem_cons_of_mem _ kw_t3_54)) (fun _ h9 => h9) rfl dX6_stolen_126 ?_
                refine lv_iload_n hx hb dX6_stolen_129 rfl (lv_at hl 1 rfl) ?_
                refine va_iald hx hb hK hP 50 0 at_50 rfl (kt_inN ex_3 (by omega) (by decide)) dX6_stolen_130 ?_
                refine lv_topi (fun t_47 et_47 => ?_)
                rw [ex_3, nI_clamp (by omega)] at et_47
                exact W.iret (v := t_47) hx hb hr (fun t ht hW => ⟨⟨t_47, v_46, rfl, ⟨(hB.up (by omega)), hL⟩, kt_heap ht hP⟩, hS.F ht⟩) hS.2.2 dX6_stolen_131
      · refine lv_aload_n hx hb dX6_stolen_34 rfl (lv_at hl 0 rfl) ?_
        refine lv_iload_n hx hb dX6_stolen_35 rfl (lv_at hl 1 rfl) ?_
        refine lv_iconst (v := 1) hx hb dX6_stolen_36 (by decide) ?_
        have hFc := mA_free (a := a) hS hA hAc
        refine va_callv (va_runV (As := [.int p0, .int 1]) (rest := []) ⟨hx, hb, hml, hown, hts⟩ (c_X6_start l dC dI cI cZ cS cC cJ a v_1 H.size p0 1 hD gn (by omega) hB.self hL ix_3 (by omega) ex_3 (by rw [← et_8]; exact c_9)) (cwV 2 hts (gV (fun w h => List.mem_cons_of_mem _ h) kw_t4_12 kw_t4_14 kw_s0_21 kw_t1_7 kw_t4_15) rfl rfl rfl (by decide +kernel) ⟨Nat.le_of_ble_eq_true rfl, Nat.le_of_ble_eq_true rfl⟩) ⟨fun av U g mk q => by obtain ⟨q0, q1, qP, qK, qN⟩ := q; exact ⟨q0, q1, qP, va_K.moved (u := U) (U := U.calling g mk av) (Vm.Alike.refl U.vm) qK, mN_same qN⟩, va_recv hK hP (ci := 6) (q0 := 45) rfl at_45, fun U hU hW => ⟨rfl, by rw [hU], by rw [hU]; exact hP, va_K.moved hW.alike hK, mN_warm hW hN⟩⟩ rfl rfl hl.1 rfl (lv_room (Nat.le_of_ble_eq_true rfl)) dX6_stolen_37 ⟨Nat.le_of_ble_eq_true rfl, Nat.le_of_ble_eq_true rfl⟩) hS (fun q _ h => hFc q h) hFc (fun v_48 t H locs ht hvm hw_48 hP _ _ hS => ?_)
        have hP := kt_heap2 ht hP
        clear ht hFc
        have hP : va_P (dC, dI) vwCl (mW cI cZ cS cC cJ a v_48) H := hP
        have hB := hB.trans hw_48.1
        have hL := hw_48.2
        refine lv_aload_n hx hb dX6_stolen_40 rfl (lv_at hl 0 rfl) ?_
        refine va_get (D := (dC, dI)) (ci := 6) (v := .ref (a 50)) (C := RX6) (T := TX6) (N := 43) hx hb hts (fun w h => List.mem_cons_of_mem _ (inWX6 w h)) hown hK hP 45 at_45 rfl 13 (by decide) (hts _ (List.mem_cons_of_mem _ kw_t3_54)) (fun _ h9 => h9) rfl dX6_stolen_41 ?_
        refine lv_iload_n hx hb dX6_stolen_44 rfl (lv_at hl 1 rfl) ?_
        refine va_iald hx hb hK hP 50 0 at_50 rfl (kt_inN ex_3 (by omega) (by decide)) dX6_stolen_45 ?_
        refine lv_topi (fun t_49 et_49 => ?_)
        rw [ex_3, nI_clamp (by omega)] at et_49
        exact W.iret (v := t_49) hx hb hr (fun t ht hW => ⟨⟨t_49, v_48, rfl, ⟨(hB.up (by omega)), hL⟩, kt_heap ht hP⟩, hS.F ht⟩) hS.2.2 dX6_stolen_46
    · refine lv_iconst (v := (-1)) hx hb dX6_stolen_23 (by decide) ?_
      exact W.iret (v := (-1)) hx hb hr (fun t ht hW => ⟨⟨(-1), v_1, rfl, ⟨(hB.up (by omega)), hL⟩, kt_heap ht hP⟩, hS.F ht⟩) hS.2.2 dX6_stolen_24
