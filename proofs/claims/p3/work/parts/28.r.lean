set_option maxHeartbeats 4000000 in
set_option maxRecDepth 100000 in
theorem c_X6_goesOn (l : Launch) (dC : Nat → ClassId) (dI : Nat → Nat → Nat) (cI cZ cS cC cJ : ClassId) (a : Nat → Nat) (v : Nat → Nat → Int32) (sz : Nat) (p0 : Int32) (hD : mDD a) (gn : Nat) (hn : gn < 200000) (hB : rB gn v v) (hL : rL v) (i0 : Nat) (hi0 : i0 < 12) (ei0 : p0 = nI i0) : Met l yX6_goesOn (Cond.code yX6_goesOn cX6_goesOn 3 none :: WW) ({ frames := 3, cells := 0, slots := 0, locals := 90 }) (va_Pc [.ref (a 45), .int p0] (fun U => U.heap.size = sz ∧ va_P (dC, dI) vwCl (mW cI cZ cS cC cJ a v) U.heap ∧ va_K (dC, dI) vwCl [(cI, .int), (cZ, .boolean), (cS, .object RX3), (cC, .object RX0), (cJ, .long)] U ∧ mN U)) (va_Qv (fun (u : Nat → Nat → Int32) => (rB gn v u) ∧ (rL u)) (fun (u : Nat → Nat → Int32) (t : State) => va_P (dC, dI) vwCl (mW cI cZ cS cC cJ a u) t.heap) (mA a sz)) 0 0 (mA a sz) := by
  refine Met.ofW (cc := cX6_goesOn) (maxL := 3) (ret := none) (by decide) rfl ?_
  intro p e s m args below meth c s₁ B hml hv
  obtain ⟨rfl, hsz, hP, hK, hN⟩ := hv
  have hx := B.exec
  have hb := B.bytes
  have hr := B.returns
  have hts := atoms_spec (ws := Cond.code yX6_goesOn cX6_goesOn 3 none :: WW) B.pre
  have hown : s.vm.findClass RX6 = some m.cls := findClass_of_methodNamed B.named
  have hlocks := B.notSynchronized
  subst hsz
  have hAc : ∀ c, c < 81 → mA a s.heap.size (a c) := fun c h => Or.inl ⟨c, h, rfl⟩
  have hA : ∀ q : Nat, s.heap.size ≤ q → mA a s.heap.size q := fun q h => Or.inr h
  generalize hAe : mA a s.heap.size = A at hAc hA ⊢
  have hS : va_S A s.heap s.heap [] := va_S.rf
  have hl := lv_entry ([.ref (a 45), .int p0]) (n := 3) (Nat.le_of_ble_eq_true rfl)
  rw [lg_entry_eq]
  generalize (lg_sl ([.ref (a 45), .int p0]) ++ List.replicate (3 - (lg_sl ([.ref (a 45), .int p0])).length) Slot.unset).toArray = ls at hl ⊢
  have hl : lv_has ls 3 [(0, .ref (a 45)), (1, .int p0)] := hl
  refine kt_absQ (fun Q hQ9 => ?_)
  have key1 : ∀ (n : Nat) (w1 : Nat → Nat → Int32) (H : Heap) (locs : List Loc) (ls : Array Slot), rk (w1 58 i0) (w1 52 i0) < n → va_P (dC, dI) vwCl (mW cI cZ cS cC cJ a w1) H → va_S A s.heap H locs → lv_has ls 3 [(0, .ref (a 45)), (1, .int p0)] → rB gn v w1 → rL w1 → W p l e (headSpec (Cond.code yX6_goesOn cX6_goesOn 3 none :: WW) ({ frames := 3, cells := 0, slots := 0, locals := 90 })).room s m ([.ref (a 45), .int p0] : List Value).toArray below meth c H locs 0 0 Q (F0 m 0 ls []) := by
    intro n
    induction n with
    | zero => intro w1 H locs ls h1; exact absurd h1 (by omega)
    | succ n ih1 =>
      intro w1 H locs ls hm1 hP hS hl hB hL
      refine lv_aload_n hx hb dX6_goesOn_0 rfl (lv_at hl 0 rfl) ?_
      refine va_get (D := (dC, dI)) (ci := 6) (v := .ref (a 52)) (C := RX6) (T := TX6) (N := 43) hx hb hts (fun w h => List.mem_cons_of_mem _ (inWX6 w h)) hown hK hP 45 at_45 rfl 15 (by decide) (hts _ (List.mem_cons_of_mem _ kw_t3_56)) (fun _ h9 => h9) rfl dX6_goesOn_1 ?_
      refine lv_iload_n hx hb dX6_goesOn_4 rfl (lv_at hl 1 rfl) ?_
      refine va_iald hx hb hK hP 52 0 at_52 rfl (kt_inN ei0 (by omega) (by decide)) dX6_goesOn_5 ?_
      refine lv_topi (fun t_1 et_1 => ?_)
      rw [ei0, nI_clamp (by omega)] at et_1
      refine lv_if_eq (tgt := 73) hx hb dX6_goesOn_6 (by decide) (fun c_2 => ?_) (fun c_2 => ?_)
      · rw [hQ9]
        exact W.vret hx hb hr (fun t ht hW => ⟨⟨w1, rfl, ⟨hB, hL⟩, kt_heap ht hP⟩, hS.F ht⟩) hS.2.2 dX6_goesOn_73
      · refine lv_aload_n hx hb dX6_goesOn_9 rfl (lv_at hl 0 rfl) ?_
        refine lv_iload_n hx hb dX6_goesOn_10 rfl (lv_at hl 1 rfl) ?_
        have hFc := mA_free (a := a) hS hA hAc
        refine va_calli (va_runV (As := [.int p0]) (rest := []) ⟨hx, hb, hml, hown, hts⟩ (c_X6_isOver l dC dI cI cZ cS cC cJ a w1 H.size p0 hD gn (by omega) hB.self i0 (by omega) ei0) (cwV 1 hts (gV (fun w h => List.mem_cons_of_mem _ h) kw_t3_228 kw_t3_230 kw_s0_17 kw_t1_7 kw_t3_231) rfl rfl rfl (by decide +kernel) ⟨Nat.le_of_ble_eq_true rfl, Nat.le_of_ble_eq_true rfl⟩) ⟨fun av U g mk q => by obtain ⟨q0, q1, qP, qK, qN⟩ := q; exact ⟨q0, q1, qP, va_K.moved (u := U) (U := U.calling g mk av) (Vm.Alike.refl U.vm) qK, mN_same qN⟩, va_recv hK hP (ci := 6) (q0 := 45) rfl at_45, fun U hU hW => ⟨rfl, by rw [hU], by rw [hU]; exact hP, va_K.moved hW.alike hK, mN_warm hW hN⟩⟩ rfl rfl hl.1 rfl (lv_room (Nat.le_of_ble_eq_true rfl)) dX6_goesOn_11 ⟨Nat.le_of_ble_eq_true rfl, Nat.le_of_ble_eq_true rfl⟩) hS (fun q _ h => hFc q h) hFc (fun r_3 _ t H locs ht hvm hw_3 hP _ _ hS => ?_)
        have hP := kt_heap2 ht hP
        clear ht hFc
        have hP : va_P (dC, dI) vwCl (mW cI cZ cS cC cJ a w1) H := hP
        rcases hw_3 with hz_4 | ⟨hz_4, hov_4⟩
        · subst hz_4
          refine lv_if_eq (tgt := 73) hx hb dX6_goesOn_14 (by decide) (fun c_5 => ?_) (fun c_5 => absurd (by decide) c_5)
          rw [hQ9]
          exact W.vret hx hb hr (fun t ht hW => ⟨⟨w1, rfl, ⟨hB, hL⟩, kt_heap ht hP⟩, hS.F ht⟩) hS.2.2 dX6_goesOn_73
        · subst hz_4
          refine lv_if_eq (tgt := 73) hx hb dX6_goesOn_14 (by decide) (fun c_6 => absurd c_6 (by decide)) (fun c_6 => ?_)
          refine lv_aload_n hx hb dX6_goesOn_17 rfl (lv_at hl 0 rfl) ?_
          refine lv_iload_n hx hb dX6_goesOn_18 rfl (lv_at hl 1 rfl) ?_
          have hFc := mA_free (a := a) hS hA hAc
          refine va_calli (va_runV (As := [.int p0]) (rest := []) ⟨hx, hb, hml, hown, hts⟩ (c_X6_next l dC dI cI cZ cS cC cJ a w1 H.size p0 hD gn (by omega) hB.self i0 (by omega) ei0) (cwV 1 hts (gV (fun w h => List.mem_cons_of_mem _ h) kw_t3_232 kw_t3_234 kw_s0_18 kw_t1_7 kw_t3_235) rfl rfl rfl (by decide +kernel) ⟨Nat.le_of_ble_eq_true rfl, Nat.le_of_ble_eq_true rfl⟩) ⟨fun av U g mk q => by obtain ⟨q0, q1, qP, qK, qN⟩ := q; exact ⟨q0, q1, qP, va_K.moved (u := U) (U := U.calling g mk av) (Vm.Alike.refl U.vm) qK, mN_same qN⟩, va_recv hK hP (ci := 6) (q0 := 45) rfl at_45, fun U hU hW => ⟨rfl, by rw [hU], by rw [hU]; exact hP, va_K.moved hW.alike hK, mN_warm hW hN⟩⟩ rfl rfl hl.1 rfl (lv_room (Nat.le_of_ble_eq_true rfl)) dX6_goesOn_19 ⟨Nat.le_of_ble_eq_true rfl, Nat.le_of_ble_eq_true rfl⟩) hS (fun q _ h => hFc q h) hFc (fun r_7 _ t H locs ht hvm hw_7 hP _ _ hS => ?_)
          have hP := kt_heap2 ht hP
          clear ht hFc
          have hP : va_P (dC, dI) vwCl (mW cI cZ cS cC cJ a w1) H := hP
          refine lv_istore_n (lv' := [(2, .int r_7), (0, .ref (a 45)), (1, .int p0)]) hx hb dX6_goesOn_22 rfl hl (by decide) rfl (fun ls hl => ?_)
          refine lv_iload_n hx hb dX6_goesOn_23 rfl (lv_at hl 0 rfl) ?_
          refine lv_if_ne (tgt := 64) hx hb dX6_goesOn_24 (by decide) (fun c_8 => ?_) (fun c_8 => ?_)
          · refine lv_aload_n hx hb dX6_goesOn_64 rfl (lv_at hl 1 rfl) ?_
            refine lv_iload_n hx hb dX6_goesOn_65 rfl (lv_at hl 2 rfl) ?_
            refine lv_iload_n hx hb dX6_goesOn_66 rfl (lv_at hl 0 rfl) ?_
            have hFc := mA_free (a := a) hS hA hAc
            refine va_callv (va_runV (As := [.int p0, .int r_7]) (rest := []) ⟨hx, hb, hml, hown, hts⟩ (c_X6_begins l dC dI cI cZ cS cC cJ a w1 H.size p0 r_7 hD gn (by omega) hB.self i0 (by omega) ei0 0 (rL.zero hL hov_4) (Or.inl ⟨rfl, c_8⟩)) (cwV 2 hts (gV (fun w h => List.mem_cons_of_mem _ h) kw_t3_236 kw_t3_238 kw_s0_19 kw_t1_7 kw_t3_239) rfl rfl rfl (by decide +kernel) ⟨Nat.le_of_ble_eq_true rfl, Nat.le_of_ble_eq_true rfl⟩) ⟨fun av U g mk q => by obtain ⟨q0, q1, qP, qK, qN⟩ := q; exact ⟨q0, q1, qP, va_K.moved (u := U) (U := U.calling g mk av) (Vm.Alike.refl U.vm) qK, mN_same qN⟩, va_recv hK hP (ci := 6) (q0 := 45) rfl at_45, fun U hU hW => ⟨rfl, by rw [hU], by rw [hU]; exact hP, va_K.moved hW.alike hK, mN_warm hW hN⟩⟩ rfl rfl hl.1 rfl (lv_room (Nat.le_of_ble_eq_true rfl)) dX6_goesOn_67 ⟨Nat.le_of_ble_eq_true rfl, Nat.le_of_ble_eq_true rfl⟩) hS (fun q _ h => hFc q h) hFc (fun v_9 t H locs ht hvm hw_9 hP _ _ hS => ?_)
            have hP := kt_heap2 ht hP
            clear ht hFc
            have hP : va_P (dC, dI) vwCl (mW cI cZ cS cC cJ a v_9) H := hP
            have hB := hB.trans hw_9.1
            have hL := hw_9.2.1
            refine lv_goto (tgt := 0) hx hb dX6_goesOn_70 (by decide) ?_
            exact ih1 v_9 _ _ _ (by have z := hw_7 (fun z => c_2 (et_1.trans z)); have z2 : v_9 52 i0 = r_7 := (by rw [hw_9.2.2.1]; simp [upd]); have z3 : v_9 58 i0 = w1 58 i0 := (by rw [hw_9.2.2.2.1]); rw [z2, z3]; omega) hP hS (lv_sub hl [1, 2] rfl) hB hL
          · refine lv_aload_n hx hb dX6_goesOn_27 rfl (lv_at hl 1 rfl) ?_
            refine va_get (D := (dC, dI)) (ci := 6) (v := .ref (a 52)) (C := RX6) (T := TX6) (N := 43) hx hb hts (fun w h => List.mem_cons_of_mem _ (inWX6 w h)) hown hK hP 45 at_45 rfl 15 (by decide) (hts _ (List.mem_cons_of_mem _ kw_t3_56)) (fun _ h9 => h9) rfl dX6_goesOn_28 ?_
            refine lv_iload_n hx hb dX6_goesOn_31 rfl (lv_at hl 2 rfl) ?_
            refine lv_iconst (v := 0) hx hb dX6_goesOn_32 (by decide) ?_
            refine va_iast hx hb hK hP (mD_of hD hAc) hS 52 0 at_52 rfl (kt_inN ei0 (by omega) (by decide)) dX6_goesOn_33 (fun H locs hP _ hS => ?_)
            obtain ⟨v_10, ev_10⟩ : ∃ z, z = mU w1 52 (upd (w1 52) i0 0) := ⟨_, rfl⟩
            have hP : va_P (dC, dI) vwCl (mW cI cZ cS cC cJ a v_10) H := by rw [ev_10]; exact mW_put hP (by omega) (by rw [ei0, nI_clamp (by omega)]; rfl)
            have hB := hB.put ev_10 (by decide)
            have hL := rL.step0 hL hov_4 ev_10
            have hg52 : v_10 52 i0 = 0 := by rw [ev_10, mU_self]; simp [upd]
            refine lv_aload_n hx hb dX6_goesOn_34 rfl (lv_at hl 1 rfl) ?_
            refine va_get (D := (dC, dI)) (ci := 6) (v := .ref (a 57)) (C := RX6) (T := TX6) (N := 43) hx hb hts (fun w h => List.mem_cons_of_mem _ (inWX6 w h)) hown hK hP 45 at_45 rfl 20 (by decide) (hts _ (List.mem_cons_of_mem _ kw_t3_61)) (fun _ h9 => h9) rfl dX6_goesOn_35 ?_
            refine lv_iload_n hx hb dX6_goesOn_38 rfl (lv_at hl 2 rfl) ?_
            refine va_iald hx hb hK hP 57 0 at_57 rfl (kt_inN ei0 (by omega) (by decide)) dX6_goesOn_39 ?_
            refine lv_topi (fun t_11 et_11 => ?_)
            rw [ei0, nI_clamp (by omega)] at et_11
            have hsc_11 : 0 ≤ t_11.toInt := by rw [et_11]; exact hB.to _ (by omega)
            refine lv_sipush (v := 500) hx hb dX6_goesOn_40 (by decide) ?_
            refine lv_icmp_ge (tgt := 70) hx hb dX6_goesOn_43 (by decide) (fun c_12 => ?_) (fun c_12 => ?_)
            · refine lv_goto (tgt := 0) hx hb dX6_goesOn_70 (by decide) ?_
              exact ih1 v_10 _ _ _ (by have z := hw_7 (fun z => c_2 (et_1.trans z)); have z2 : v_10 52 i0 = r_7 := (by rw [show v_10 52 = v_10 52 from rfl, hg52, c_8]); have z3 : v_10 58 i0 = w1 58 i0 := (by rw [show v_10 58 = w1 58 from (by rw [ev_10, mU_ne _ _ (by first | decide | omega)])]); rw [z2, z3]; omega) hP hS (lv_sub hl [1, 2] rfl) hB hL
            · refine lv_aload_n hx hb dX6_goesOn_46 rfl (lv_at hl 1 rfl) ?_
              refine va_get (D := (dC, dI)) (ci := 6) (v := .ref (a 76)) (C := RX6) (T := TX6) (N := 43) hx hb hts (fun w h => List.mem_cons_of_mem _ (inWX6 w h)) hown hK hP 45 at_45 rfl 39 (by decide) (hts _ (List.mem_cons_of_mem _ kw_t3_80)) (fun _ h9 => h9) rfl dX6_goesOn_47 ?_
              refine lv_aload_n hx hb dX6_goesOn_50 rfl (lv_at hl 1 rfl) ?_
              refine va_get (D := (dC, dI)) (ci := 6) (v := .ref (a 57)) (C := RX6) (T := TX6) (N := 43) hx hb hts (fun w h => List.mem_cons_of_mem _ (inWX6 w h)) hown hK hP 45 at_45 rfl 20 (by decide) (hts _ (List.mem_cons_of_mem _ kw_t3_61)) (fun _ h9 => h9) rfl dX6_goesOn_51 ?_
              refine lv_iload_n hx hb dX6_goesOn_54 rfl (lv_at hl 2 rfl) ?_
              refine va_iald hx hb hK hP 57 0 at_57 rfl (kt_inN ei0 (by omega) (by decide)) dX6_goesOn_55 ?_
              refine lv_topi (fun t_13 et_13 => ?_)
              rw [ei0, nI_clamp (by omega)] at et_13
              obtain rfl : t_11 = t_13 := et_11.trans et_13.symm
              refine lv_aload_n hx hb dX6_goesOn_56 rfl (lv_at hl 1 rfl) ?_
              refine va_get (D := (dC, dI)) (ci := 6) (v := .int (v_10 45 1)) (C := RX6) (T := TX6) (N := 43) hx hb hts (fun w h => List.mem_cons_of_mem _ (inWX6 w h)) hown hK hP 45 at_45 rfl 1 (by decide) (hts _ (List.mem_cons_of_mem _ kw_t3_42)) (fun _ h9 => h9) rfl dX6_goesOn_57 ?_
              refine lv_topi (fun t_14 et_14 => ?_)
              obtain ⟨ix_16, hx_16, ex_16⟩ := kt_idx (x := t_11) (n := 500) (by have z0 := c_2; have z1 := c_8; have z2 := hsc_11; have z3 := c_12; (try simp only [Int32.lt_iff_toInt_lt, Int32.le_iff_toInt_le, ← Int32.toInt_inj, L0, L1, L2, L3, L4, L6, L9, L500, L5, L7, L10, L12, L15, L16, L20, L63, L1000, L1023, L2000, L10000, L100000, Lm1] at z0 z1 z2 z3); omega) (by have z0 := c_2; have z1 := c_8; have z2 := hsc_11; have z3 := c_12; (try simp only [Int32.lt_iff_toInt_lt, Int32.le_iff_toInt_le, ← Int32.toInt_inj, L0, L1, L2, L3, L4, L6, L9, L500, L5, L7, L10, L12, L15, L16, L20, L63, L1000, L1023, L2000, L10000, L100000, Lm1] at z0 z1 z2 z3); omega)
              refine va_iast hx hb hK hP (mD_of hD hAc) hS 76 0 at_76 rfl (kt_inN ex_16 (by omega) (by decide)) dX6_goesOn_60 (fun H locs hP _ hS => ?_)
              obtain ⟨v_17, ev_17⟩ : ∃ z, z = mU v_10 76 (upd (v_10 76) ix_16 t_14) := ⟨_, rfl⟩
              have hP : va_P (dC, dI) vwCl (mW cI cZ cS cC cJ a v_17) H := by rw [ev_17]; exact mW_put hP (by omega) (by rw [ex_16, nI_clamp (by omega)]; rfl)
              have hB := hB.put ev_17 (by decide)
              have hL := hL.put ev_17 (by decide)
              refine lv_goto (tgt := 70) hx hb dX6_goesOn_61 (by decide) ?_
              refine lv_goto (tgt := 0) hx hb dX6_goesOn_70 (by decide) ?_
              exact ih1 v_17 _ _ _ (by have z := hw_7 (fun z => c_2 (et_1.trans z)); have z2 : v_17 52 i0 = r_7 := (by rw [show v_17 52 = v_10 52 from (by rw [ev_17, mU_ne _ _ (by first | decide | omega)]), hg52, c_8]); have z3 : v_17 58 i0 = w1 58 i0 := (by rw [show v_17 58 = w1 58 from (by rw [ev_17, mU_ne _ _ (by first | decide | omega), ev_10, mU_ne _ _ (by first | decide | omega)])]); rw [z2, z3]; omega) hP hS (lv_sub hl [1, 2] rfl) hB hL
  exact key1 _ v _ _ _ (Nat.lt_succ_self _) hP hS (lv_sub hl [0, 1] rfl) hB hL

set_option maxHeartbeats 4000000 in
set_option maxRecDepth 100000 in
theorem c_X6_tick (l : Launch) (dC : Nat → ClassId) (dI : Nat → Nat → Nat) (cI cZ cS cC cJ : ClassId) (a : Nat → Nat) (v : Nat → Nat → Int32) (sz : Nat) (p0 : Int32) (hD : mDD a) (gn : Nat) (hn : gn < 200000) (hB : rB gn v v) (hL : rL v) (hnw : 0 ≤ (v 45 1).toInt ∧ (v 45 1).toInt ≤ 100000) : Met l yX6_tick (Cond.code yX6_tick cX6_tick 4 (some .int) :: WW) ({ frames := 4, cells := 0, slots := 0, locals := 120 }) (va_Pc [.ref (a 45), .int p0] (fun U => U.heap.size = sz ∧ va_P (dC, dI) vwCl (mW cI cZ cS cC cJ a v) U.heap ∧ va_K (dC, dI) vwCl [(cI, .int), (cZ, .boolean), (cS, .object RX3), (cC, .object RX0), (cJ, .long)] U ∧ mN U)) (va_Qi (fun (r : Int32) (u : Nat → Nat → Int32) => (rC gn v u) ∧ (rL u) ∧ (r = sp_tk p0 (v 45 1) ∧ u 45 1 = sn_tk p0 (v 45 1) ∧ u 45 2 = v 45 2 ∧ u 60 = v 60)) (fun (u : Nat → Nat → Int32) (t : State) => va_P (dC, dI) vwCl (mW cI cZ cS cC cJ a u) t.heap) (mA a sz)) 0 0 (mA a sz) := by
  refine Met.ofW (cc := cX6_tick) (maxL := 4) (ret := (some .int)) (by decide) rfl ?_
  intro p e s m args below meth c s₁ B hml hv
  obtain ⟨rfl, hsz, hP, hK, hN⟩ := hv
  have hx := B.exec
  have hb := B.bytes
  have hr := B.returns
  have hts := atoms_spec (ws := Cond.code yX6_tick cX6_tick 4 (some .int) :: WW) B.pre
  have hown : s.vm.findClass RX6 = some m.cls := findClass_of_methodNamed B.named
  have hlocks := B.notSynchronized
  subst hsz
  have hAc : ∀ c, c < 81 → mA a s.heap.size (a c) := fun c h => Or.inl ⟨c, h, rfl⟩
  have hA : ∀ q : Nat, s.heap.size ≤ q → mA a s.heap.size q := fun q h => Or.inr h
  generalize hAe : mA a s.heap.size = A at hAc hA ⊢
  have hS : va_S A s.heap s.heap [] := va_S.rf
  have hl := lv_entry ([.ref (a 45), .int p0]) (n := 4) (Nat.le_of_ble_eq_true rfl)
  rw [lg_entry_eq]
  generalize (lg_sl ([.ref (a 45), .int p0]) ++ List.replicate (4 - (lg_sl ([.ref (a 45), .int p0])).length) Slot.unset).toArray = ls at hl ⊢
  have hl : lv_has ls 4 [(0, .ref (a 45)), (1, .int p0)] := hl
  have hB := hB.toC
  refine kt_absQ (fun Q hQ9 => ?_)
  refine lv_aload_n hx hb dX6_tick_0 rfl (lv_at hl 0 rfl) ?_
  refine lv_iconst (v := 0) hx hb dX6_tick_1 (by decide) ?_
  refine va_put (D := (dC, dI)) (ci := 6) (v := .int 0) (ty := .int) (C := RX6) (T := TX6) (N := 43) hx hb hts (fun w h => List.mem_cons_of_mem _ (inWX6 w h)) tyX6 tyX6_ok nmX6 hown hK hP (mD_of hD hAc) hS 45 at_45 rfl 0 (by decide) (hts _ (List.mem_cons_of_mem _ kw_t3_41)) (fun _ h9 => h9) rfl (by decide +kernel) rfl rfl (Nat.le_of_ble_eq_true rfl) dX6_tick_2 (fun H locs hP _ hS => ?_)
  obtain ⟨v_1, ev_1⟩ : ∃ z, z = mU v 45 (upd (v 45) 0 0) := ⟨_, rfl⟩
  have hP : va_P (dC, dI) vwCl (mW cI cZ cS cC cJ a v_1) H := by rw [ev_1]; exact mW_put hP (by omega) rfl
  have hB := hB.putO ev_1 (by decide)
  have hL := hL.putM ev_1 (by decide)
  refine lv_iload_n hx hb dX6_tick_5 rfl (lv_at hl 1 rfl) ?_
  refine lv_iconst (v := 0) hx hb dX6_tick_6 (by decide) ?_
  refine lv_sipush (v := 2000) hx hb dX6_tick_7 (by decide) ?_
  have hFc := mA_free (a := a) hS hA hAc
  refine va_calli (va_runS (As := [.int p0, .int 0, .int 2000]) (rest := []) ⟨hx, hb, hml, hown, hts⟩ (c_X6_isIn l dC dI cI cZ cS cC cJ a v_1 H.size p0 0 2000 hD gn (by omega) hB.self) (va_cwS 3 hts (gS (fun w h => List.mem_cons_of_mem _ h) kw_t3_176 kw_t3_177 kw_t1_7 kw_t3_178) rfl rfl rfl (by decide +kernel) ⟨Nat.le_of_ble_eq_true rfl, Nat.le_of_ble_eq_true rfl⟩) ⟨fun av U g mk q => by obtain ⟨q0, q1, qP, qK, qN⟩ := q; exact ⟨q0, q1, qP, va_K.moved (u := U) (U := U.calling g mk av) (Vm.Alike.refl U.vm) qK, mN_same qN⟩, fun U hU hW => ⟨rfl, by rw [hU], by rw [hU]; exact hP, va_K.moved hW.alike hK, mN_warm hW hN⟩⟩ rfl rfl hl.1 rfl (lv_room (Nat.le_of_ble_eq_true rfl)) dX6_tick_10 ⟨Nat.le_of_ble_eq_true rfl, Nat.le_of_ble_eq_true rfl⟩) hS (fun q _ h => hFc q h) hFc (fun r_2 _ t H locs ht hvm hw_2 hP _ _ hS => ?_)
  have hP := kt_heap2 ht hP
  clear ht hFc
  have hP : va_P (dC, dI) vwCl (mW cI cZ cS cC cJ a v_1) H := hP
  rcases hw_2 with ⟨hz_3, c_3a, c_3b⟩ | ⟨hz_3, c_3d⟩
  · subst hz_3
    refine lv_if_eq (tgt := 27) hx hb dX6_tick_13 (by decide) (fun c_4 => absurd c_4 (by decide)) (fun c_4 => ?_)
    refine lv_aload_n hx hb dX6_tick_16 rfl (lv_at hl 0 rfl) ?_
    refine va_get (D := (dC, dI)) (ci := 6) (v := .int (v_1 45 1)) (C := RX6) (T := TX6) (N := 43) hx hb hts (fun w h => List.mem_cons_of_mem _ (inWX6 w h)) hown hK hP 45 at_45 rfl 1 (by decide) (hts _ (List.mem_cons_of_mem _ kw_t3_42)) (fun _ h9 => h9) rfl dX6_tick_17 ?_
    refine lv_topi (fun t_5 et_5 => ?_)
    refine lv_iload_n hx hb dX6_tick_20 rfl (lv_at hl 1 rfl) ?_
    refine lv_iadd hx hb dX6_tick_21 ?_
    refine lv_topi (fun t_6 et_6 => ?_)
    refine lv_ldc (v := 100000) hx hb hown (hts _ (List.mem_cons_of_mem _ kw_t3_215)) dX6_tick_22 ?_
    refine lv_icmp_le (tgt := 29) hx hb dX6_tick_24 (by decide) (fun c_7 => ?_) (fun c_7 => ?_)
    · have hp9 : 0 ≤ p0.toInt ∧ p0.toInt ≤ 2000 := by have z0 := c_3a; have z1 := c_3b; have z2 := c_7; (try simp only [Int32.lt_iff_toInt_lt, Int32.le_iff_toInt_le, ← Int32.toInt_inj, L0, L1, L2, L3, L4, L6, L9, L500, L5, L7, L10, L12, L15, L16, L20, L63, L1000, L1023, L2000, L10000, L100000, Lm1] at z0 z1 z2); exact ⟨by omega, by omega⟩
      have hn9 : t_5 = v 45 1 := et_5.trans (by rw [ev_1, mU_self]; rfl)
      have hen9 := kt_add (x := t_5) (y := p0) (by rw [hn9]; exact hnw) ⟨by omega, by omega⟩ et_6
      rw [hn9] at hen9
      have hle9 : t_6.toInt ≤ 100000 := by have z := c_7; rw [Int32.le_iff_toInt_le, L100000] at z; exact z
      refine lv_iconst (v := 0) hx hb dX6_tick_29 (by decide) ?_
      refine lv_istore_n (lv' := [(2, .int 0), (0, .ref (a 45)), (1, .int p0)]) hx hb dX6_tick_30 rfl hl (by decide) rfl (fun ls hl => ?_)
      have hbd1 : p0.toInt ≤ 2000 := by have z0 := c_3a; have z1 := c_3b; have z2 := c_7; (try simp only [Int32.lt_iff_toInt_lt, Int32.le_iff_toInt_le, ← Int32.toInt_inj, L0, L1, L2, L3, L4, L6, L9, L500, L5, L7, L10, L12, L15, L16, L20, L63, L1000, L1023, L2000, L10000, L100000, Lm1] at z0 z1 z2); omega
      have key1 : ∀ (n i1 : Nat) (k1 : Int32) (w1 : Nat → Nat → Int32) (H : Heap) (locs : List Loc) (ls : Array Slot), i1 ≤ 2000 → 2000 - i1 < n → k1 = nI i1 → va_P (dC, dI) vwCl (mW cI cZ cS cC cJ a w1) H → va_S A s.heap H locs → lv_has ls 4 [(2, .int k1), (0, .ref (a 45)), (1, .int p0)] → rC gn v w1 → rL w1 → ((w1 45 1).toInt = (v 45 1).toInt + i1 ∧ w1 45 2 = v 45 2 ∧ w1 60 = v 60 ∧ (i1 : Int) ≤ p0.toInt) → W p l e (headSpec (Cond.code yX6_tick cX6_tick 4 (some .int) :: WW) ({ frames := 4, cells := 0, slots := 0, locals := 120 })).room s m ([.ref (a 45), .int p0] : List Value).toArray below meth c H locs 0 0 Q (F0 m 31 ls []) := by
        intro n
        induction n with
        | zero => intro i k w1 H locs ls h1 h2; exact absurd h2 (by omega)
        | succ n ih1 =>
          intro i1 k1 w1 H locs ls hi1 hin1 ek1 hP hS hl hB hL hJ1
          refine lv_iload_n hx hb dX6_tick_31 rfl (lv_at hl 0 rfl) ?_
          refine lv_iload_n hx hb dX6_tick_32 rfl (lv_at hl 2 rfl) ?_
          refine lv_icmp_ge (tgt := 102) hx hb dX6_tick_33 (by decide) (fun c_8 => ?_) (fun c_8 => ?_)
          · refine lv_aload_n hx hb dX6_tick_102 rfl (lv_at hl 1 rfl) ?_
            refine va_get (D := (dC, dI)) (ci := 6) (v := .int (w1 45 1)) (C := RX6) (T := TX6) (N := 43) hx hb hts (fun w h => List.mem_cons_of_mem _ (inWX6 w h)) hown hK hP 45 at_45 rfl 1 (by decide) (hts _ (List.mem_cons_of_mem _ kw_t3_42)) (fun _ h9 => h9) rfl dX6_tick_103 ?_
            refine lv_topi (fun t_9 et_9 => ?_)
            rw [hQ9]
            have hge9 : p0.toInt ≤ i1 := by have z := c_8; rw [Int32.le_iff_toInt_le, ek1, nI_toInt (by omega)] at z; exact z
            have hi9 : (i1 : Int) ≤ p0.toInt := hJ1.2.2.2
            have hnow9 : w1 45 1 = v 45 1 + p0 := by apply Int32.toInt_inj.mp; rw [kt_add hnw ⟨hp9.1, by omega⟩ rfl]; have := hJ1.1; omega
            exact W.iret (v := t_9) hx hb hr (fun t ht hW => ⟨⟨t_9, w1, rfl, ⟨hB, hL, ⟨by rw [sp_tk, if_neg (by rintro (z | z | z) <;> omega), et_9, hnow9], by rw [sn_tk, if_neg (by rintro (z | z | z) <;> omega), hnow9], hJ1.2.1, hJ1.2.2.1⟩⟩, kt_heap ht hP⟩, hS.F ht⟩) hS.2.2 dX6_tick_106
          · refine lv_aload_n hx hb dX6_tick_36 rfl (lv_at hl 1 rfl) ?_
            refine lv_dup hx hb dX6_tick_37 rfl ?_
            refine va_get (D := (dC, dI)) (ci := 6) (v := .int (w1 45 1)) (C := RX6) (T := TX6) (N := 43) hx hb hts (fun w h => List.mem_cons_of_mem _ (inWX6 w h)) hown hK hP 45 at_45 rfl 1 (by decide) (hts _ (List.mem_cons_of_mem _ kw_t3_42)) (fun _ h9 => h9) rfl dX6_tick_38 ?_
            refine lv_topi (fun t_10 et_10 => ?_)
            refine lv_iconst (v := 1) hx hb dX6_tick_41 (by decide) ?_
            refine lv_iadd hx hb dX6_tick_42 ?_
            refine lv_topi (fun t_11 et_11 => ?_)
            refine va_put (D := (dC, dI)) (ci := 6) (v := .int t_11) (ty := .int) (C := RX6) (T := TX6) (N := 43) hx hb hts (fun w h => List.mem_cons_of_mem _ (inWX6 w h)) tyX6 tyX6_ok nmX6 hown hK hP (mD_of hD hAc) hS 45 at_45 rfl 1 (by decide) (hts _ (List.mem_cons_of_mem _ kw_t3_42)) (fun _ h9 => h9) rfl (by decide +kernel) rfl rfl (Nat.le_of_ble_eq_true rfl) dX6_tick_43 (fun H locs hP _ hS => ?_)
            obtain ⟨v_12, ev_12⟩ : ∃ z, z = mU w1 45 (upd (w1 45) 1 t_11) := ⟨_, rfl⟩
            have hP : va_P (dC, dI) vwCl (mW cI cZ cS cC cJ a v_12) H := by rw [ev_12]; exact mW_put hP (by omega) rfl
            have hB := hB.putO ev_12 (by decide)
            have hL := hL.putM ev_12 (by decide)
            refine lv_iconst (v := 0) hx hb dX6_tick_46 (by decide) ?_
            refine lv_istore_n (lv' := [(3, .int 0), (2, .int k1), (0, .ref (a 45)), (1, .int p0)]) hx hb dX6_tick_47 rfl hl (by decide) rfl (fun ls hl => ?_)
            have hi_13 : i1 < 2000 := kt_ltB hbd1 ek1 hi1 c_8
            have key2 : ∀ (n i2 : Nat) (k2 : Int32) (w2 : Nat → Nat → Int32) (H : Heap) (locs : List Loc) (ls : Array Slot), i2 ≤ 16 → 16 - i2 < n → k2 = nI i2 → va_P (dC, dI) vwCl (mW cI cZ cS cC cJ a w2) H → va_S A s.heap H locs → lv_has ls 4 [(3, .int k2), (2, .int k1), (0, .ref (a 45)), (1, .int p0)] → rC gn v w2 → rL w2 → (w2 45 1 = v_12 45 1 ∧ w2 45 2 = v_12 45 2 ∧ w2 60 = v_12 60) → W p l e (headSpec (Cond.code yX6_tick cX6_tick 4 (some .int) :: WW) ({ frames := 4, cells := 0, slots := 0, locals := 120 })).room s m ([.ref (a 45), .int p0] : List Value).toArray below meth c H locs 0 0 Q (F0 m 48 ls []) := by
              intro n
              induction n with
              | zero => intro i k w2 H locs ls h1 h2; exact absurd h2 (by omega)
              | succ n ih2 =>
                intro i2 k2 w2 H locs ls hi2 hin2 ek2 hP hS hl hB hL hJ2
                refine lv_iload_n hx hb dX6_tick_48 rfl (lv_at hl 0 rfl) ?_
                refine lv_bipush (v := 16) hx hb dX6_tick_49 (by decide) ?_
                refine lv_icmp_ge (tgt := 65) hx hb dX6_tick_51 (by decide) (fun c_14 => ?_) (fun c_14 => ?_)
                · refine lv_iconst (v := 0) hx hb dX6_tick_65 (by decide) ?_
                  refine lv_istore_n (lv' := [(3, .int 0), (2, .int k1), (0, .ref (a 45)), (1, .int p0)]) hx hb dX6_tick_66 rfl hl (by decide) rfl (fun ls hl => ?_)
                  have key3 : ∀ (n i3 : Nat) (k3 : Int32) (w3 : Nat → Nat → Int32) (H : Heap) (locs : List Loc) (ls : Array Slot), i3 ≤ 12 → 12 - i3 < n → k3 = nI i3 → va_P (dC, dI) vwCl (mW cI cZ cS cC cJ a w3) H → va_S A s.heap H locs → lv_has ls 4 [(3, .int k3), (2, .int k1), (0, .ref (a 45)), (1, .int p0)] → rC gn v w3 → rL w3 → (w3 45 1 = w2 45 1 ∧ w3 45 2 = w2 45 2 ∧ w3 60 = w2 60) → W p l e (headSpec (Cond.code yX6_tick cX6_tick 4 (some .int) :: WW) ({ frames := 4, cells := 0, slots := 0, locals := 120 })).room s m ([.ref (a 45), .int p0] : List Value).toArray below meth c H locs 0 0 Q (F0 m 67 ls []) := by
                    intro n
                    induction n with
                    | zero => intro i k w3 H locs ls h1 h2; exact absurd h2 (by omega)
                    | succ n ih3 =>
                      intro i3 k3 w3 H locs ls hi3 hin3 ek3 hP hS hl hB hL hJ3
                      refine lv_iload_n hx hb dX6_tick_67 rfl (lv_at hl 0 rfl) ?_
                      refine lv_aload_n hx hb dX6_tick_68 rfl (lv_at hl 2 rfl) ?_
                      refine va_get (D := (dC, dI)) (ci := 6) (v := .int (w3 45 2)) (C := RX6) (T := TX6) (N := 43) hx hb hts (fun w h => List.mem_cons_of_mem _ (inWX6 w h)) hown hK hP 45 at_45 rfl 2 (by decide) (hts _ (List.mem_cons_of_mem _ kw_t3_43)) (fun _ h9 => h9) rfl dX6_tick_69 ?_
                      refine lv_topi (fun t_15 et_15 => ?_)
                      have hsc_15 : 0 ≤ t_15.toInt ∧ t_15.toInt ≤ 12 := by rw [et_15]; exact hB.sc
                      refine lv_icmp_ge (tgt := 96) hx hb dX6_tick_72 (by decide) (fun c_16 => ?_) (fun c_16 => ?_)
                      · obtain ⟨t_17, et_17⟩ : ∃ y : Int32, y = k1 + 1 := ⟨_, rfl⟩
                        refine lv_iinc (v := t_17) (lv' := [(2, .int t_17), (3, .int k3), (0, .ref (a 45)), (1, .int p0)]) hx hb dX6_tick_96 hl (k := 1) rfl (by rw [et_17]; rfl) (by decide) rfl (fun ls hl => ?_)
                        refine lv_goto (tgt := 31) hx hb dX6_tick_99 (by decide) ?_
                        have hlt9 : (i1 : Int) < p0.toInt := by have z := c_8; rw [Int32.le_iff_toInt_le, ek1, nI_toInt (by omega)] at z; omega
                        have hsm : w3 45 1 = v_12 45 1 ∧ w3 45 2 = v_12 45 2 ∧ w3 60 = v_12 60 := ⟨hJ3.1.trans hJ2.1, hJ3.2.1.trans hJ2.2.1, hJ3.2.2.trans hJ2.2.2⟩
                        have hy9 := kt_addI (x := t_10) (by rw [et_10]; omega) (by rw [et_10]; omega) et_11
                        rw [et_10] at hy9
                        have hk1 : v_12 45 1 = t_11 := by rw [ev_12, mU_self]; simp [upd]
                        have hk2 : v_12 45 2 = w1 45 2 := by rw [ev_12, mU_self]; simp [upd]
                        have hk0 : v_12 60 = w1 60 := by rw [ev_12, mU_ne _ _ (by decide)]
                        exact ih1 (i1 + 1) t_17 w3 _ _ _ (by omega) (by omega) (by rw [et_17, ek1]; exact nI_1 i1) hP hS (lv_sub hl [0, 2, 3] rfl) hB hL ⟨by rw [hsm.1, hk1, hy9]; have := hJ1.1; omega, by rw [hsm.2.1, hk2]; exact hJ1.2.1, by rw [hsm.2.2, hk0]; exact hJ1.2.2.1, by omega⟩
                      · refine lv_aload_n hx hb dX6_tick_75 rfl (lv_at hl 2 rfl) ?_
                        refine va_get (D := (dC, dI)) (ci := 6) (v := .ref (a 60)) (C := RX6) (T := TX6) (N := 43) hx hb hts (fun w h => List.mem_cons_of_mem _ (inWX6 w h)) hown hK hP 45 at_45 rfl 23 (by decide) (hts _ (List.mem_cons_of_mem _ kw_t3_64)) (fun _ h9 => h9) rfl dX6_tick_76 ?_
                        refine lv_bipush (v := 16) hx hb dX6_tick_79 (by decide) ?_
                        refine va_zald hx hb hK hP 60 1 at_60 rfl (by unfold vp_in; decide) dX6_tick_81 ?_
                        refine lv_topi (fun t_18 et_18 => ?_)
                        have et_18 : t_18 = w3 60 16 := et_18
                        refine lv_if_ne (tgt := 96) hx hb dX6_tick_82 (by decide) (fun c_19 => ?_) (fun c_19 => ?_)
                        · obtain ⟨t_20, et_20⟩ : ∃ y : Int32, y = k1 + 1 := ⟨_, rfl⟩
                          refine lv_iinc (v := t_20) (lv' := [(2, .int t_20), (3, .int k3), (0, .ref (a 45)), (1, .int p0)]) hx hb dX6_tick_96 hl (k := 1) rfl (by rw [et_20]; rfl) (by decide) rfl (fun ls hl => ?_)
                          refine lv_goto (tgt := 31) hx hb dX6_tick_99 (by decide) ?_
                          have hlt9 : (i1 : Int) < p0.toInt := by have z := c_8; rw [Int32.le_iff_toInt_le, ek1, nI_toInt (by omega)] at z; omega
                          have hsm : w3 45 1 = v_12 45 1 ∧ w3 45 2 = v_12 45 2 ∧ w3 60 = v_12 60 := ⟨hJ3.1.trans hJ2.1, hJ3.2.1.trans hJ2.2.1, hJ3.2.2.trans hJ2.2.2⟩
                          have hy9 := kt_addI (x := t_10) (by rw [et_10]; omega) (by rw [et_10]; omega) et_11
                          rw [et_10] at hy9
                          have hk1 : v_12 45 1 = t_11 := by rw [ev_12, mU_self]; simp [upd]
                          have hk2 : v_12 45 2 = w1 45 2 := by rw [ev_12, mU_self]; simp [upd]
                          have hk0 : v_12 60 = w1 60 := by rw [ev_12, mU_ne _ _ (by decide)]
                          exact ih1 (i1 + 1) t_20 w3 _ _ _ (by omega) (by omega) (by rw [et_20, ek1]; exact nI_1 i1) hP hS (lv_sub hl [0, 2, 3] rfl) hB hL ⟨by rw [hsm.1, hk1, hy9]; have := hJ1.1; omega, by rw [hsm.2.1, hk2]; exact hJ1.2.1, by rw [hsm.2.2, hk0]; exact hJ1.2.2.1, by omega⟩
                        · refine lv_aload_n hx hb dX6_tick_85 rfl (lv_at hl 2 rfl) ?_
                          refine lv_iload_n hx hb dX6_tick_86 rfl (lv_at hl 0 rfl) ?_
                          have hi_22 : i3 < 12 := kt_lt12 hsc_15 ek3 hi3 c_16
                          have hFc := mA_free (a := a) hS hA hAc
                          refine va_callv (va_runV (As := [.int k3]) (rest := []) ⟨hx, hb, hml, hown, hts⟩ (c_X6_goesOn l dC dI cI cZ cS cC cJ a w3 H.size k3 hD gn (by omega) hB.self hL i3 (by omega) ek3) (cwV 1 hts (gV (fun w h => List.mem_cons_of_mem _ h) kw_t3_224 kw_t3_226 kw_s0_16 kw_t1_7 kw_t3_227) rfl rfl rfl (by decide +kernel) ⟨Nat.le_of_ble_eq_true rfl, Nat.le_of_ble_eq_true rfl⟩) ⟨fun av U g mk q => by obtain ⟨q0, q1, qP, qK, qN⟩ := q; exact ⟨q0, q1, qP, va_K.moved (u := U) (U := U.calling g mk av) (Vm.Alike.refl U.vm) qK, mN_same qN⟩, va_recv hK hP (ci := 6) (q0 := 45) rfl at_45, fun U hU hW => ⟨rfl, by rw [hU], by rw [hU]; exact hP, va_K.moved hW.alike hK, mN_warm hW hN⟩⟩ rfl rfl hl.1 rfl (lv_room (Nat.le_of_ble_eq_true rfl)) dX6_tick_87 ⟨Nat.le_of_ble_eq_true rfl, Nat.le_of_ble_eq_true rfl⟩) hS (fun q _ h => hFc q h) hFc (fun v_21 t H locs ht hvm hw_21 hP _ _ hS => ?_)
                          have hP := kt_heap2 ht hP
                          clear ht hFc
                          have hP : va_P (dC, dI) vwCl (mW cI cZ cS cC cJ a v_21) H := hP
                          have hB := hB.trans hw_21.1
                          have hL := hw_21.2
                          obtain ⟨t_23, et_23⟩ : ∃ y : Int32, y = k3 + 1 := ⟨_, rfl⟩
                          refine lv_iinc (v := t_23) (lv' := [(3, .int t_23), (2, .int k1), (0, .ref (a 45)), (1, .int p0)]) hx hb dX6_tick_90 hl (k := 0) rfl (by rw [et_23]; rfl) (by decide) rfl (fun ls hl => ?_)
                          refine lv_goto (tgt := 67) hx hb dX6_tick_93 (by decide) ?_
                          exact ih3 (i3 + 1) t_23 v_21 _ _ _ (by omega) (by omega) (by rw [et_23, ek3]; exact nI_1 i3) hP hS (lv_sub hl [0, 1, 2, 3] rfl) hB hL ⟨hw_21.1.2.1.trans hJ3.1, hw_21.1.2.2.1.trans hJ3.2.1, hw_21.1.2.2.2.trans hJ3.2.2⟩
                  exact key3 (12 + 1) 0 0 w2 _ _ _ (Nat.zero_le _) (by omega) rfl hP hS (lv_sub hl [0, 1, 2, 3] rfl) hB hL ⟨rfl, rfl, rfl⟩
                · refine lv_aload_n hx hb dX6_tick_54 rfl (lv_at hl 2 rfl) ?_
                  refine lv_iload_n hx hb dX6_tick_55 rfl (lv_at hl 0 rfl) ?_
                  have hi_25 : i2 < 16 := kt_lt (N := 16) rfl (by decide) ek2 hi2 c_14
                  have hFc := mA_free (a := a) hS hA hAc
                  refine va_callv (va_runV (As := [.int k2]) (rest := []) ⟨hx, hb, hml, hown, hts⟩ (c_X6_take l dC dI cI cZ cS cC cJ a w2 H.size k2 hD gn (by omega) hB.self hL i2 (by omega) ek2) (cwV 1 hts (gV (fun w h => List.mem_cons_of_mem _ h) kw_t3_216 kw_t3_218 kw_s0_14 kw_t1_7 kw_t3_219) rfl rfl rfl (by decide +kernel) ⟨Nat.le_of_ble_eq_true rfl, Nat.le_of_ble_eq_true rfl⟩) ⟨fun av U g mk q => by obtain ⟨q0, q1, qP, qK, qN⟩ := q; exact ⟨q0, q1, qP, va_K.moved (u := U) (U := U.calling g mk av) (Vm.Alike.refl U.vm) qK, mN_same qN⟩, va_recv hK hP (ci := 6) (q0 := 45) rfl at_45, fun U hU hW => ⟨rfl, by rw [hU], by rw [hU]; exact hP, va_K.moved hW.alike hK, mN_warm hW hN⟩⟩ rfl rfl hl.1 rfl (lv_room (Nat.le_of_ble_eq_true rfl)) dX6_tick_56 ⟨Nat.le_of_ble_eq_true rfl, Nat.le_of_ble_eq_true rfl⟩) hS (fun q _ h => hFc q h) hFc (fun v_24 t H locs ht hvm hw_24 hP _ _ hS => ?_)
                  have hP := kt_heap2 ht hP
                  clear ht hFc
                  have hP : va_P (dC, dI) vwCl (mW cI cZ cS cC cJ a v_24) H := hP
                  have hB := hB.trans hw_24.1
                  have hL := hw_24.2
                  obtain ⟨t_26, et_26⟩ : ∃ y : Int32, y = k2 + 1 := ⟨_, rfl⟩
                  refine lv_iinc (v := t_26) (lv' := [(3, .int t_26), (2, .int k1), (0, .ref (a 45)), (1, .int p0)]) hx hb dX6_tick_59 hl (k := 0) rfl (by rw [et_26]; rfl) (by decide) rfl (fun ls hl => ?_)
                  refine lv_goto (tgt := 48) hx hb dX6_tick_62 (by decide) ?_
                  exact ih2 (i2 + 1) t_26 v_24 _ _ _ (by omega) (by omega) (by rw [et_26, ek2]; exact nI_1 i2) hP hS (lv_sub hl [0, 1, 2, 3] rfl) hB hL ⟨hw_24.1.2.1.trans hJ2.1, hw_24.1.2.2.1.trans hJ2.2.1, hw_24.1.2.2.2.trans hJ2.2.2⟩
            exact key2 (16 + 1) 0 0 v_12 _ _ _ (Nat.zero_le _) (by omega) rfl hP hS (lv_sub hl [0, 1, 2, 3] rfl) hB hL ⟨rfl, rfl, rfl⟩
      exact key1 (2000 + 1) 0 0 v_1 _ _ _ (Nat.zero_le _) (by omega) rfl hP hS (lv_sub hl [0, 1, 2] rfl) hB hL ⟨by rw [show v_1 45 1 = v 45 1 by rw [ev_1, mU_self]; rfl]; simp, by rw [ev_1, mU_self]; rfl, (by rw [ev_1, mU_ne _ _ (by first | decide | omega)]), by simp; omega⟩
    · refine lv_iconst (v := (-1)) hx hb dX6_tick_27 (by decide) ?_
      rw [hQ9]
      have hp9 : 0 ≤ p0.toInt ∧ p0.toInt ≤ 2000 := by have z0 := c_3a; have z1 := c_3b; simp only [Int32.lt_iff_toInt_lt, L0, L2000] at z0 z1; exact ⟨by omega, by omega⟩
      have hn9 : t_5 = v 45 1 := et_5.trans (by rw [ev_1, mU_self]; rfl)
      have hen9 := kt_add (x := t_5) (y := p0) (by rw [hn9]; exact hnw) ⟨by omega, by omega⟩ et_6
      rw [hn9] at hen9
      exact W.iret (v := (-1)) hx hb hr (fun t ht hW => ⟨⟨(-1), v_1, rfl, ⟨hB, hL, ⟨by rw [sp_tk, if_pos (by have z := c_7; rw [Int32.le_iff_toInt_le, L100000] at z; right; right; omega)], by rw [sn_tk, if_pos (by have z := c_7; rw [Int32.le_iff_toInt_le, L100000] at z; right; right; omega), ev_1, mU_self]; rfl, by rw [ev_1, mU_self]; rfl, (by rw [ev_1, mU_ne _ _ (by first | decide | omega)])⟩⟩, kt_heap ht hP⟩, hS.F ht⟩) hS.2.2 dX6_tick_28
  · subst hz_3
    refine lv_if_eq (tgt := 27) hx hb dX6_tick_13 (by decide) (fun c_27 => ?_) (fun c_27 => absurd (by decide) c_27)
    refine lv_iconst (v := (-1)) hx hb dX6_tick_27 (by decide) ?_
    rw [hQ9]
    exact W.iret (v := (-1)) hx hb hr (fun t ht hW => ⟨⟨(-1), v_1, rfl, ⟨hB, hL, ⟨by rw [sp_tk, if_pos (by have z0 := c_3d; (try simp only [Int32.lt_iff_toInt_lt, Int32.le_iff_toInt_le, ← Int32.toInt_inj, L0, L1, L2, L3, L4, L6, L9, L500, L5, L7, L10, L12, L15, L16, L20, L63, L1000, L1023, L2000, L10000, L100000, Lm1] at z0 ⊢); omega)], by rw [sn_tk, if_pos (by have z0 := c_3d; (try simp only [Int32.lt_iff_toInt_lt, Int32.le_iff_toInt_le, ← Int32.toInt_inj, L0, L1, L2, L3, L4, L6, L9, L500, L5, L7, L10, L12, L15, L16, L20, L63, L1000, L1023, L2000, L10000, L100000, Lm1] at z0 ⊢); omega), ev_1, mU_self]; rfl, by rw [ev_1, mU_self]; rfl, (by rw [ev_1, mU_ne _ _ (by first | decide | omega)])⟩⟩, kt_heap ht hP⟩, hS.F ht⟩) hS.2.2 dX6_tick_28
