set_option maxHeartbeats 4000000 in
set_option maxRecDepth 100000 in
theorem c_X5_tick (l : Launch) (dC : Nat → ClassId) (dI : Nat → Nat → Nat) (cI cZ cS cC cJ : ClassId) (a : Nat → Nat) (v : Nat → Nat → Int32) (sz : Nat) (p0 : Int32) (hD : mDD a) (hI : kI v v) (hnw : 0 ≤ (v 0 6).toInt ∧ (v 0 6).toInt ≤ 100000) : Met l yX5_tick (Cond.code yX5_tick cX5_tick 5 (some .int) :: WW) ({ frames := 5, cells := 0, slots := 0, locals := 150 }) (va_Pc [.ref (a 0), .int p0] (fun U => U.heap.size = sz ∧ va_P (dC, dI) vwCl (mW cI cZ cS cC cJ a v) U.heap ∧ va_K (dC, dI) vwCl [(cI, .int), (cZ, .boolean), (cS, .object RX3), (cC, .object RX0), (cJ, .long)] U ∧ mN U)) (va_Qi (fun (r : Int32) (u : Nat → Nat → Int32) => kJ v u ∧ (r = sp_tk p0 (v 0 6) ∧ u 0 6 = sn_tk p0 (v 0 6) ∧ u 0 5 = v 0 5 ∧ u 5 = v 5)) (fun (u : Nat → Nat → Int32) (t : State) => va_P (dC, dI) vwCl (mW cI cZ cS cC cJ a u) t.heap) (mA a sz)) 0 0 (mA a sz) := by
  refine Met.ofW (cc := cX5_tick) (maxL := 5) (ret := (some .int)) (by decide) rfl ?_
  intro p e s m args below meth c s₁ B hml hv
  obtain ⟨rfl, hsz, hP, hK, hN⟩ := hv
  have hx := B.exec
  have hb := B.bytes
  have hr := B.returns
  have hts := atoms_spec (ws := Cond.code yX5_tick cX5_tick 5 (some .int) :: WW) B.pre
  have hown : s.vm.findClass RX5 = some m.cls := findClass_of_methodNamed B.named
  have hlocks := B.notSynchronized
  subst hsz
  have hAc : ∀ c, c < 81 → mA a s.heap.size (a c) := fun c h => Or.inl ⟨c, h, rfl⟩
  have hA : ∀ q : Nat, s.heap.size ≤ q → mA a s.heap.size q := fun q h => Or.inr h
  generalize hAe : mA a s.heap.size = A at hAc hA ⊢
  have hS : va_S A s.heap s.heap [] := va_S.rf
  have hl := lv_entry ([.ref (a 0), .int p0]) (n := 5) (Nat.le_of_ble_eq_true rfl)
  rw [lg_entry_eq]
  generalize (lg_sl ([.ref (a 0), .int p0]) ++ List.replicate (5 - (lg_sl ([.ref (a 0), .int p0])).length) Slot.unset).toArray = ls at hl ⊢
  have hl : lv_has ls 5 [(0, .ref (a 0)), (1, .int p0)] := hl
  have hI := hI.toJ
  refine kt_absQ (fun Q hQ9 => ?_)
  refine lv_iload_n hx hb dX5_tick_0 rfl (lv_at hl 1 rfl) ?_
  refine lv_if_lt (tgt := 22) hx hb dX5_tick_1 (by decide) (fun c_1 => ?_) (fun c_1 => ?_)
  · refine lv_iconst (v := (-1)) hx hb dX5_tick_22 (by decide) ?_
    rw [hQ9]
    exact W.iret (v := (-1)) hx hb hr (fun t ht hW => ⟨⟨(-1), v, rfl, ⟨hI, ⟨by rw [sp_tk, if_pos (by have z0 := c_1; (try simp only [Int32.lt_iff_toInt_lt, Int32.le_iff_toInt_le, ← Int32.toInt_inj, L0, L1, L2, L3, L4, L6, L9, L500, L5, L7, L10, L12, L15, L16, L20, L63, L1000, L1023, L2000, L10000, L100000, Lm1] at z0 ⊢); omega)], by rw [sn_tk, if_pos (by have z0 := c_1; (try simp only [Int32.lt_iff_toInt_lt, Int32.le_iff_toInt_le, ← Int32.toInt_inj, L0, L1, L2, L3, L4, L6, L9, L500, L5, L7, L10, L12, L15, L16, L20, L63, L1000, L1023, L2000, L10000, L100000, Lm1] at z0 ⊢); omega)], rfl, rfl⟩⟩, kt_heap ht hP⟩, hS.F ht⟩) hS.2.2 dX5_tick_23
  · refine lv_iload_n hx hb dX5_tick_4 rfl (lv_at hl 1 rfl) ?_
    refine lv_sipush (v := 2000) hx hb dX5_tick_5 (by decide) ?_
    refine lv_icmp_gt (tgt := 22) hx hb dX5_tick_8 (by decide) (fun c_2 => ?_) (fun c_2 => ?_)
    · refine lv_iconst (v := (-1)) hx hb dX5_tick_22 (by decide) ?_
      rw [hQ9]
      exact W.iret (v := (-1)) hx hb hr (fun t ht hW => ⟨⟨(-1), v, rfl, ⟨hI, ⟨by rw [sp_tk, if_pos (by have z0 := c_1; have z1 := c_2; (try simp only [Int32.lt_iff_toInt_lt, Int32.le_iff_toInt_le, ← Int32.toInt_inj, L0, L1, L2, L3, L4, L6, L9, L500, L5, L7, L10, L12, L15, L16, L20, L63, L1000, L1023, L2000, L10000, L100000, Lm1] at z0 z1 ⊢); omega)], by rw [sn_tk, if_pos (by have z0 := c_1; have z1 := c_2; (try simp only [Int32.lt_iff_toInt_lt, Int32.le_iff_toInt_le, ← Int32.toInt_inj, L0, L1, L2, L3, L4, L6, L9, L500, L5, L7, L10, L12, L15, L16, L20, L63, L1000, L1023, L2000, L10000, L100000, Lm1] at z0 z1 ⊢); omega)], rfl, rfl⟩⟩, kt_heap ht hP⟩, hS.F ht⟩) hS.2.2 dX5_tick_23
    · refine lv_iload_n hx hb dX5_tick_11 rfl (lv_at hl 1 rfl) ?_
      refine lv_ldc (v := 100000) hx hb hown (hts _ (List.mem_cons_of_mem _ kw_t2_58)) dX5_tick_12 ?_
      refine lv_aload_n hx hb dX5_tick_14 rfl (lv_at hl 0 rfl) ?_
      refine va_get (D := (dC, dI)) (ci := 5) (v := .int (v 0 6)) (C := RX5) (T := TX5) (N := 11) hx hb hts (fun w h => List.mem_cons_of_mem _ (inWX5 w h)) hown hK hP 0 at_0 rfl 6 (by decide) (hts _ (List.mem_cons_of_mem _ kw_t1_163)) (fun _ h9 => h9) rfl dX5_tick_15 ?_
      refine lv_topi (fun t_3 et_3 => ?_)
      refine lv_isub hx hb dX5_tick_18 ?_
      refine lv_topi (fun t_4 et_4 => ?_)
      refine lv_icmp_le (tgt := 24) hx hb dX5_tick_19 (by decide) (fun c_5 => ?_) (fun c_5 => ?_)
      · refine lv_aload_n hx hb dX5_tick_24 rfl (lv_at hl 0 rfl) ?_
        refine va_get (D := (dC, dI)) (ci := 5) (v := .int (v 0 6)) (C := RX5) (T := TX5) (N := 11) hx hb hts (fun w h => List.mem_cons_of_mem _ (inWX5 w h)) hown hK hP 0 at_0 rfl 6 (by decide) (hts _ (List.mem_cons_of_mem _ kw_t1_163)) (fun _ h9 => h9) rfl dX5_tick_25 ?_
        refine lv_topi (fun t_6 et_6 => ?_)
        obtain rfl : t_3 = t_6 := et_3.trans et_6.symm
        refine lv_iload_n hx hb dX5_tick_28 rfl (lv_at hl 1 rfl) ?_
        refine lv_iadd hx hb dX5_tick_29 ?_
        refine lv_topi (fun t_7 et_7 => ?_)
        refine lv_istore_n (lv' := [(2, .int t_7), (0, .ref (a 0)), (1, .int p0)]) hx hb dX5_tick_30 rfl hl (by decide) rfl (fun ls hl => ?_)
        have hp9 : 0 ≤ p0.toInt ∧ p0.toInt ≤ 2000 := by have z0 := c_1; have z1 := c_2; have z2 := c_5; (try simp only [Int32.lt_iff_toInt_lt, Int32.le_iff_toInt_le, ← Int32.toInt_inj, L0, L1, L2, L3, L4, L6, L9, L500, L5, L7, L10, L12, L15, L16, L20, L63, L1000, L1023, L2000, L10000, L100000, Lm1] at z0 z1 z2); exact ⟨by omega, by omega⟩
        have hsb9 := kt_sub (x := 100000) (y := t_3) (by decide) (by rw [et_3]; exact hnw) et_4
        rw [et_3, L100000] at hsb9
        have hle9 : p0.toInt ≤ t_4.toInt := by have z := c_5; rw [Int32.le_iff_toInt_le] at z; exact z
        have hen9 := kt_add (x := t_3) (y := p0) (by rw [et_3]; exact hnw) ⟨by omega, by omega⟩ et_7
        rw [et_3] at hen9
        refine lv_iconst (v := 0) hx hb dX5_tick_31 (by decide) ?_
        refine lv_istore_n (lv' := [(3, .int 0), (2, .int t_7), (0, .ref (a 0)), (1, .int p0)]) hx hb dX5_tick_32 rfl hl (by decide) rfl (fun ls hl => ?_)
        have hbd1 : p0.toInt ≤ 2000 := by have z0 := c_1; have z1 := c_2; have z2 := c_5; (try simp only [Int32.lt_iff_toInt_lt, Int32.le_iff_toInt_le, ← Int32.toInt_inj, L0, L1, L2, L3, L4, L6, L9, L500, L5, L7, L10, L12, L15, L16, L20, L63, L1000, L1023, L2000, L10000, L100000, Lm1] at z0 z1 z2); omega
        have key1 : ∀ (n i1 : Nat) (k1 : Int32) (w1 : Nat → Nat → Int32) (H : Heap) (locs : List Loc) (ls : Array Slot), i1 ≤ 2000 → 2000 - i1 < n → k1 = nI i1 → va_P (dC, dI) vwCl (mW cI cZ cS cC cJ a w1) H → va_S A s.heap H locs → lv_has ls 5 [(3, .int k1), (2, .int t_7), (0, .ref (a 0)), (1, .int p0)] → kJ v w1 → (w1 0 5 = v 0 5 ∧ w1 5 = v 5 ∧ (v 0 6).toInt + i1 ≤ (w1 0 6).toInt ∧ (w1 0 6).toInt ≤ (v 0 6).toInt + p0.toInt) → W p l e (headSpec (Cond.code yX5_tick cX5_tick 5 (some .int) :: WW) ({ frames := 5, cells := 0, slots := 0, locals := 150 })).room s m ([.ref (a 0), .int p0] : List Value).toArray below meth c H locs 0 0 Q (F0 m 33 ls []) := by
          intro n
          induction n with
          | zero => intro i k w1 H locs ls h1 h2; exact absurd h2 (by omega)
          | succ n ih1 =>
            intro i1 k1 w1 H locs ls hi1 hin1 ek1 hP hS hl hI hJ1
            refine lv_iload_n hx hb dX5_tick_33 rfl (lv_at hl 0 rfl) ?_
            refine lv_iload_n hx hb dX5_tick_34 rfl (lv_at hl 3 rfl) ?_
            refine lv_icmp_ge (tgt := 138) hx hb dX5_tick_35 (by decide) (fun c_8 => ?_) (fun c_8 => ?_)
            · refine lv_aload_n hx hb dX5_tick_138 rfl (lv_at hl 2 rfl) ?_
              refine va_get (D := (dC, dI)) (ci := 5) (v := .int (w1 0 6)) (C := RX5) (T := TX5) (N := 11) hx hb hts (fun w h => List.mem_cons_of_mem _ (inWX5 w h)) hown hK hP 0 at_0 rfl 6 (by decide) (hts _ (List.mem_cons_of_mem _ kw_t1_163)) (fun _ h9 => h9) rfl dX5_tick_139 ?_
              refine lv_topi (fun t_9 et_9 => ?_)
              rw [hQ9]
              have hge9 : p0.toInt ≤ i1 := by have z := c_8; rw [Int32.le_iff_toInt_le, ek1, nI_toInt (by omega)] at z; exact z
              have hnow9 : w1 0 6 = v 0 6 + p0 := by apply Int32.toInt_inj.mp; rw [kt_add hnw ⟨hp9.1, by omega⟩ rfl]; have := hJ1.2.2; omega
              exact W.iret (v := t_9) hx hb hr (fun t ht hW => ⟨⟨t_9, w1, rfl, ⟨hI, ⟨by rw [sp_tk, if_neg (by rintro (z | z | z) <;> omega), et_9, hnow9], by rw [sn_tk, if_neg (by rintro (z | z | z) <;> omega), hnow9], hJ1.1, hJ1.2.1⟩⟩, kt_heap ht hP⟩, hS.F ht⟩) hS.2.2 dX5_tick_142
            · refine lv_aload_n hx hb dX5_tick_38 rfl (lv_at hl 2 rfl) ?_
              refine va_get (D := (dC, dI)) (ci := 5) (v := .int (w1 0 6)) (C := RX5) (T := TX5) (N := 11) hx hb hts (fun w h => List.mem_cons_of_mem _ (inWX5 w h)) hown hK hP 0 at_0 rfl 6 (by decide) (hts _ (List.mem_cons_of_mem _ kw_t1_163)) (fun _ h9 => h9) rfl dX5_tick_39 ?_
              refine lv_topi (fun t_10 et_10 => ?_)
              refine lv_iload_n hx hb dX5_tick_42 rfl (lv_at hl 1 rfl) ?_
              refine lv_icmp_ge (tgt := 138) hx hb dX5_tick_43 (by decide) (fun c_11 => ?_) (fun c_11 => ?_)
              · refine lv_aload_n hx hb dX5_tick_138 rfl (lv_at hl 2 rfl) ?_
                refine va_get (D := (dC, dI)) (ci := 5) (v := .int (w1 0 6)) (C := RX5) (T := TX5) (N := 11) hx hb hts (fun w h => List.mem_cons_of_mem _ (inWX5 w h)) hown hK hP 0 at_0 rfl 6 (by decide) (hts _ (List.mem_cons_of_mem _ kw_t1_163)) (fun _ h9 => h9) rfl dX5_tick_139 ?_
                refine lv_topi (fun t_12 et_12 => ?_)
                obtain rfl : t_10 = t_12 := et_10.trans et_12.symm
                rw [hQ9]
                have hge9 : t_7.toInt ≤ (w1 0 6).toInt := by have z := c_11; rw [Int32.le_iff_toInt_le, et_10] at z; exact z
                have hnow9 : w1 0 6 = v 0 6 + p0 := by apply Int32.toInt_inj.mp; rw [kt_add hnw ⟨hp9.1, by omega⟩ rfl]; have := hJ1.2.2; omega
                exact W.iret (v := t_10) hx hb hr (fun t ht hW => ⟨⟨t_10, w1, rfl, ⟨hI, ⟨by rw [sp_tk, if_neg (by rintro (z | z | z) <;> omega), et_10, hnow9], by rw [sn_tk, if_neg (by rintro (z | z | z) <;> omega), hnow9], hJ1.1, hJ1.2.1⟩⟩, kt_heap ht hP⟩, hS.F ht⟩) hS.2.2 dX5_tick_142
              · refine lv_aload_n hx hb dX5_tick_46 rfl (lv_at hl 2 rfl) ?_
                refine lv_aload_n hx hb dX5_tick_47 rfl (lv_at hl 2 rfl) ?_
                refine lv_iload_n hx hb dX5_tick_48 rfl (lv_at hl 1 rfl) ?_
                have hFc := mA_free (a := a) hS hA hAc
                refine va_calli (va_runV (As := [.int t_7]) (rest := [.ref (a 0)]) ⟨hx, hb, hml, hown, hts⟩ (c_X5_nextStir l dC dI cI cZ cS cC cJ a w1 H.size t_7 hD hI.self (⟨by omega, by omega⟩)) (cwV 1 hts (gV (fun w h => List.mem_cons_of_mem _ h) kw_t2_59 kw_t2_61 kw_s0_3 kw_t1_1 kw_t2_62) rfl rfl rfl (by decide +kernel) ⟨Nat.le_of_ble_eq_true rfl, Nat.le_of_ble_eq_true rfl⟩) ⟨fun av U g mk q => by obtain ⟨q0, q1, qP, qK, qN⟩ := q; exact ⟨q0, q1, qP, va_K.moved (u := U) (U := U.calling g mk av) (Vm.Alike.refl U.vm) qK, mN_same qN⟩, va_recv hK hP (ci := 5) (q0 := 0) rfl at_0, fun U hU hW => ⟨rfl, by rw [hU], by rw [hU]; exact hP, va_K.moved hW.alike hK, mN_warm hW hN⟩⟩ rfl rfl hl.1 rfl (lv_room (Nat.le_of_ble_eq_true rfl)) dX5_tick_49 ⟨Nat.le_of_ble_eq_true rfl, Nat.le_of_ble_eq_true rfl⟩) hS (fun q _ h => hFc q h) hFc (fun r_13 _ t H locs ht hvm hw_13 hP _ _ hS => ?_)
                have hP := kt_heap2 ht hP
                clear ht hFc
                have hP : va_P (dC, dI) vwCl (mW cI cZ cS cC cJ a w1) H := hP
                refine va_put (D := (dC, dI)) (ci := 5) (v := .int r_13) (ty := .int) (C := RX5) (T := TX5) (N := 11) hx hb hts (fun w h => List.mem_cons_of_mem _ (inWX5 w h)) tyX5 tyX5_ok nmX5 hown hK hP (mD_of hD hAc) hS 0 at_0 rfl 6 (by decide) (hts _ (List.mem_cons_of_mem _ kw_t1_163)) (fun _ h9 => h9) rfl (by decide +kernel) rfl rfl (Nat.le_of_ble_eq_true rfl) dX5_tick_52 (fun H locs hP _ hS => ?_)
                obtain ⟨v_14, ev_14⟩ : ∃ z, z = mU w1 0 (upd (w1 0) 6 r_13) := ⟨_, rfl⟩
                have hP : va_P (dC, dI) vwCl (mW cI cZ cS cC cJ a v_14) H := by rw [ev_14]; exact mW_put hP (by omega) rfl
                have hI := hI.putK ev_14 (Or.inl (by decide))
                have hst9 : (w1 0 6).toInt < r_13.toInt ∧ r_13.toInt ≤ (v 0 6).toInt + p0.toInt := by have z := hw_13 (by have z := c_11; rw [Int32.le_iff_toInt_le, et_10] at z; omega); rw [hen9] at z; exact z
                refine lv_iconst (v := 0) hx hb dX5_tick_55 (by decide) ?_
                refine lv_istore (lv' := [(4, .int 0), (3, .int k1), (2, .int t_7), (0, .ref (a 0)), (1, .int p0)]) hx hb dX5_tick_56 hl (by decide) rfl (fun ls hl => ?_)
                have hi_15 : i1 < 2000 := kt_ltB hbd1 ek1 hi1 c_8
                have key2 : ∀ (n i2 : Nat) (k2 : Int32) (w2 : Nat → Nat → Int32) (H : Heap) (locs : List Loc) (ls : Array Slot), i2 ≤ 12 → 12 - i2 < n → k2 = nI i2 → va_P (dC, dI) vwCl (mW cI cZ cS cC cJ a w2) H → va_S A s.heap H locs → lv_has ls 5 [(4, .int k2), (3, .int k1), (2, .int t_7), (0, .ref (a 0)), (1, .int p0)] → kJ v w2 → (w2 0 5 = v_14 0 5 ∧ w2 0 6 = v_14 0 6 ∧ w2 5 = v_14 5) → W p l e (headSpec (Cond.code yX5_tick cX5_tick 5 (some .int) :: WW) ({ frames := 5, cells := 0, slots := 0, locals := 150 })).room s m ([.ref (a 0), .int p0] : List Value).toArray below meth c H locs 0 0 Q (F0 m 58 ls []) := by
                  intro n
                  induction n with
                  | zero => intro i k w2 H locs ls h1 h2; exact absurd h2 (by omega)
                  | succ n ih2 =>
                    intro i2 k2 w2 H locs ls hi2 hin2 ek2 hP hS hl hI hJ2
                    refine lv_iload hx hb dX5_tick_58 (lv_at hl 0 rfl) ?_
                    refine lv_aload_n hx hb dX5_tick_60 rfl (lv_at hl 3 rfl) ?_
                    refine va_get (D := (dC, dI)) (ci := 5) (v := .int (w2 0 5)) (C := RX5) (T := TX5) (N := 11) hx hb hts (fun w h => List.mem_cons_of_mem _ (inWX5 w h)) hown hK hP 0 at_0 rfl 5 (by decide) (hts _ (List.mem_cons_of_mem _ kw_t1_162)) (fun _ h9 => h9) rfl dX5_tick_61 ?_
                    refine lv_topi (fun t_16 et_16 => ?_)
                    have hsc_16 : 0 ≤ t_16.toInt ∧ t_16.toInt ≤ 12 := by rw [et_16]; exact hI.sc
                    refine lv_icmp_ge (tgt := 91) hx hb dX5_tick_64 (by decide) (fun c_17 => ?_) (fun c_17 => ?_)
                    · refine lv_aload_n hx hb dX5_tick_91 rfl (lv_at hl 3 rfl) ?_
                      refine va_get (D := (dC, dI)) (ci := 5) (v := .ref (a 5)) (C := RX5) (T := TX5) (N := 11) hx hb hts (fun w h => List.mem_cons_of_mem _ (inWX5 w h)) hown hK hP 0 at_0 rfl 3 (by decide) (hts _ (List.mem_cons_of_mem _ kw_t1_160)) (fun _ h9 => h9) rfl dX5_tick_92 ?_
                      refine lv_bipush (v := 16) hx hb dX5_tick_95 (by decide) ?_
                      have hFc := mA_free (a := a) hS hA hAc
                      refine va_calli (va_runV (As := [.int 16]) (rest := []) ⟨hx, hb, hml, hown, hts⟩ (c_X2_isDown l dC dI cI cZ cS cC cJ a w2 H.size 16 hD hI.self) (cwV 1 hts (gV (fun w h => List.mem_cons_of_mem _ h) kw_t1_234 kw_t1_235 kw_t1_236 kw_t1_3 kw_t1_237) rfl rfl rfl (by decide +kernel) ⟨Nat.le_of_ble_eq_true rfl, Nat.le_of_ble_eq_true rfl⟩) ⟨fun av U g mk q => by obtain ⟨q0, q1, qP, qK, qN⟩ := q; exact ⟨q0, q1, qP, va_K.moved (u := U) (U := U.calling g mk av) (Vm.Alike.refl U.vm) qK, mN_same qN⟩, va_recv hK hP (ci := 2) (q0 := 5) rfl at_5, fun U hU hW => ⟨rfl, by rw [hU], by rw [hU]; exact hP, va_K.moved hW.alike hK, mN_warm hW hN⟩⟩ rfl rfl hl.1 rfl (lv_room (Nat.le_of_ble_eq_true rfl)) dX5_tick_97 ⟨Nat.le_of_ble_eq_true rfl, Nat.le_of_ble_eq_true rfl⟩) hS (fun q _ h => hFc q h) hFc (fun r_18 _ t H locs ht hvm hw_18 hP _ _ hS => ?_)
                      have hP := kt_heap2 ht hP
                      clear ht hFc
                      have hP : va_P (dC, dI) vwCl (mW cI cZ cS cC cJ a w2) H := hP
                      refine lv_if_ne (tgt := 132) hx hb dX5_tick_100 (by decide) (fun c_19 => ?_) (fun c_19 => ?_)
                      · obtain ⟨t_20, et_20⟩ : ∃ y : Int32, y = k1 + 1 := ⟨_, rfl⟩
                        refine lv_iinc (v := t_20) (lv' := [(3, .int t_20), (4, .int k2), (2, .int t_7), (0, .ref (a 0)), (1, .int p0)]) hx hb dX5_tick_132 hl (k := 1) rfl (by rw [et_20]; rfl) (by decide) rfl (fun ls hl => ?_)
                        refine lv_goto (tgt := 33) hx hb dX5_tick_135 (by decide) ?_
                        have hsm : w2 0 5 = v_14 0 5 ∧ w2 0 6 = v_14 0 6 ∧ w2 5 = v_14 5 := hJ2
                        have hk6 : v_14 0 6 = r_13 := by rw [ev_14, mU_self]; simp [upd]
                        have hk5 : v_14 0 5 = w1 0 5 := by rw [ev_14, mU_self]; simp [upd]
                        have hkp : v_14 5 = w1 5 := by rw [ev_14, mU_ne _ _ (by decide)]
                        exact ih1 (i1 + 1) t_20 w2 _ _ _ (by omega) (by omega) (by rw [et_20, ek1]; exact nI_1 i1) hP hS (lv_sub hl [0, 2, 3, 4] rfl) hI ⟨by rw [hsm.1, hk5]; exact hJ1.1, by rw [hsm.2.2, hkp]; exact hJ1.2.1, by rw [hsm.2.1, hk6]; have := hst9; omega, by rw [hsm.2.1, hk6]; have := hst9; omega⟩
                      · refine lv_iconst (v := 0) hx hb dX5_tick_103 (by decide) ?_
                        refine lv_istore (lv' := [(4, .int 0), (3, .int k1), (2, .int t_7), (0, .ref (a 0)), (1, .int p0)]) hx hb dX5_tick_104 hl (by decide) rfl (fun ls hl => ?_)
                        have key3 : ∀ (n i3 : Nat) (k3 : Int32) (w3 : Nat → Nat → Int32) (H : Heap) (locs : List Loc) (ls : Array Slot), i3 ≤ 12 → 12 - i3 < n → k3 = nI i3 → va_P (dC, dI) vwCl (mW cI cZ cS cC cJ a w3) H → va_S A s.heap H locs → lv_has ls 5 [(4, .int k3), (3, .int k1), (2, .int t_7), (0, .ref (a 0)), (1, .int p0)] → kJ v w3 → (w3 0 5 = w2 0 5 ∧ w3 0 6 = w2 0 6 ∧ w3 5 = w2 5) → W p l e (headSpec (Cond.code yX5_tick cX5_tick 5 (some .int) :: WW) ({ frames := 5, cells := 0, slots := 0, locals := 150 })).room s m ([.ref (a 0), .int p0] : List Value).toArray below meth c H locs 0 0 Q (F0 m 106 ls []) := by
                          intro n
                          induction n with
                          | zero => intro i k w3 H locs ls h1 h2; exact absurd h2 (by omega)
                          | succ n ih3 =>
                            intro i3 k3 w3 H locs ls hi3 hin3 ek3 hP hS hl hI hJ3
                            refine lv_iload hx hb dX5_tick_106 (lv_at hl 0 rfl) ?_
                            refine lv_aload_n hx hb dX5_tick_108 rfl (lv_at hl 3 rfl) ?_
                            refine va_get (D := (dC, dI)) (ci := 5) (v := .int (w3 0 5)) (C := RX5) (T := TX5) (N := 11) hx hb hts (fun w h => List.mem_cons_of_mem _ (inWX5 w h)) hown hK hP 0 at_0 rfl 5 (by decide) (hts _ (List.mem_cons_of_mem _ kw_t1_162)) (fun _ h9 => h9) rfl dX5_tick_109 ?_
                            refine lv_topi (fun t_21 et_21 => ?_)
                            have hsc_21 : 0 ≤ t_21.toInt ∧ t_21.toInt ≤ 12 := by rw [et_21]; exact hI.sc
                            refine lv_icmp_ge (tgt := 132) hx hb dX5_tick_112 (by decide) (fun c_22 => ?_) (fun c_22 => ?_)
                            · obtain ⟨t_23, et_23⟩ : ∃ y : Int32, y = k1 + 1 := ⟨_, rfl⟩
                              refine lv_iinc (v := t_23) (lv' := [(3, .int t_23), (4, .int k3), (2, .int t_7), (0, .ref (a 0)), (1, .int p0)]) hx hb dX5_tick_132 hl (k := 1) rfl (by rw [et_23]; rfl) (by decide) rfl (fun ls hl => ?_)
                              refine lv_goto (tgt := 33) hx hb dX5_tick_135 (by decide) ?_
                              have hsm : w3 0 5 = v_14 0 5 ∧ w3 0 6 = v_14 0 6 ∧ w3 5 = v_14 5 := ⟨hJ3.1.trans hJ2.1, hJ3.2.1.trans hJ2.2.1, hJ3.2.2.trans hJ2.2.2⟩
                              have hk6 : v_14 0 6 = r_13 := by rw [ev_14, mU_self]; simp [upd]
                              have hk5 : v_14 0 5 = w1 0 5 := by rw [ev_14, mU_self]; simp [upd]
                              have hkp : v_14 5 = w1 5 := by rw [ev_14, mU_ne _ _ (by decide)]
                              exact ih1 (i1 + 1) t_23 w3 _ _ _ (by omega) (by omega) (by rw [et_23, ek1]; exact nI_1 i1) hP hS (lv_sub hl [0, 2, 3, 4] rfl) hI ⟨by rw [hsm.1, hk5]; exact hJ1.1, by rw [hsm.2.2, hkp]; exact hJ1.2.1, by rw [hsm.2.1, hk6]; have := hst9; omega, by rw [hsm.2.1, hk6]; have := hst9; omega⟩
                            · refine lv_aload_n hx hb dX5_tick_115 rfl (lv_at hl 3 rfl) ?_
                              refine lv_aload_n hx hb dX5_tick_116 rfl (lv_at hl 3 rfl) ?_
                              refine va_get (D := (dC, dI)) (ci := 5) (v := .ref (a 2)) (C := RX5) (T := TX5) (N := 11) hx hb hts (fun w h => List.mem_cons_of_mem _ (inWX5 w h)) hown hK hP 0 at_0 rfl 1 (by decide) (hts _ (List.mem_cons_of_mem _ kw_t1_158)) (fun _ h9 => h9) rfl dX5_tick_117 ?_
                              refine lv_iload hx hb dX5_tick_120 (lv_at hl 0 rfl) ?_
                              have hi_24 : i3 < 12 := kt_lt12 hsc_21 ek3 hi3 c_22
                              refine m_aldC hx hb hK hP ek3 hi_24 dX5_tick_122 ?_
                              have hFc := mA_free (a := a) hS hA hAc
                              refine va_callv (va_runV (As := [.ref (a (9 + 3 * i3))]) (rest := []) ⟨hx, hb, hml, hown, hts⟩ (c_X5_goOn l dC dI cI cZ cS cC cJ a w3 H.size i3 hi_24 hD hI.self) (cwV 1 hts (gV (fun w h => List.mem_cons_of_mem _ h) kw_t2_94 kw_t2_96 kw_s0_4 kw_t1_1 kw_t2_97) rfl rfl rfl (by decide +kernel) ⟨Nat.le_of_ble_eq_true rfl, Nat.le_of_ble_eq_true rfl⟩) ⟨fun av U g mk q => by obtain ⟨q0, q1, qP, qK, qN⟩ := q; exact ⟨q0, q1, qP, va_K.moved (u := U) (U := U.calling g mk av) (Vm.Alike.refl U.vm) qK, mN_same qN⟩, va_recv hK hP (ci := 5) (q0 := 0) rfl at_0, fun U hU hW => ⟨rfl, by rw [hU], by rw [hU]; exact hP, va_K.moved hW.alike hK, mN_warm hW hN⟩⟩ rfl rfl hl.1 rfl (lv_room (Nat.le_of_ble_eq_true rfl)) dX5_tick_123 ⟨Nat.le_of_ble_eq_true rfl, Nat.le_of_ble_eq_true rfl⟩) hS (fun q _ h => hFc q h) hFc (fun v_25 t H locs ht hvm hw_25 hP _ _ hS => ?_)
                              have hP := kt_heap2 ht hP
                              clear ht hFc
                              have hP : va_P (dC, dI) vwCl (mW cI cZ cS cC cJ a v_25) H := hP
                              have hI := hI.trans hw_25
                              obtain ⟨t_26, et_26⟩ : ∃ y : Int32, y = k3 + 1 := ⟨_, rfl⟩
                              refine lv_iinc (v := t_26) (lv' := [(4, .int t_26), (3, .int k1), (2, .int t_7), (0, .ref (a 0)), (1, .int p0)]) hx hb dX5_tick_126 hl (k := 0) rfl (by rw [et_26]; rfl) (by decide) rfl (fun ls hl => ?_)
                              refine lv_goto (tgt := 106) hx hb dX5_tick_129 (by decide) ?_
                              exact ih3 (i3 + 1) t_26 v_25 _ _ _ (by omega) (by omega) (by rw [et_26, ek3]; exact nI_1 i3) hP hS (lv_sub hl [0, 1, 2, 3, 4] rfl) hI ⟨hw_25.2.1.trans hJ3.1, hw_25.2.2.1.trans hJ3.2.1, hw_25.2.2.2.trans hJ3.2.2⟩
                        exact key3 (12 + 1) 0 0 w2 _ _ _ (Nat.zero_le _) (by omega) rfl hP hS (lv_sub hl [0, 1, 2, 3, 4] rfl) hI ⟨rfl, rfl, rfl⟩
                    · refine lv_aload_n hx hb dX5_tick_67 rfl (lv_at hl 3 rfl) ?_
                      refine va_get (D := (dC, dI)) (ci := 5) (v := .ref (a 2)) (C := RX5) (T := TX5) (N := 11) hx hb hts (fun w h => List.mem_cons_of_mem _ (inWX5 w h)) hown hK hP 0 at_0 rfl 1 (by decide) (hts _ (List.mem_cons_of_mem _ kw_t1_158)) (fun _ h9 => h9) rfl dX5_tick_68 ?_
                      refine lv_iload hx hb dX5_tick_71 (lv_at hl 0 rfl) ?_
                      have hi_27 : i2 < 12 := kt_lt12 hsc_16 ek2 hi2 c_17
                      refine m_aldC hx hb hK hP ek2 hi_27 dX5_tick_73 ?_
                      refine lv_aload_n hx hb dX5_tick_74 rfl (lv_at hl 3 rfl) ?_
                      refine va_get (D := (dC, dI)) (ci := 5) (v := .int (w2 0 6)) (C := RX5) (T := TX5) (N := 11) hx hb hts (fun w h => List.mem_cons_of_mem _ (inWX5 w h)) hown hK hP 0 at_0 rfl 6 (by decide) (hts _ (List.mem_cons_of_mem _ kw_t1_163)) (fun _ h9 => h9) rfl dX5_tick_75 ?_
                      refine lv_topi (fun t_28 et_28 => ?_)
                      refine lv_aload_n hx hb dX5_tick_78 rfl (lv_at hl 3 rfl) ?_
                      refine va_get (D := (dC, dI)) (ci := 5) (v := .ref (a 5)) (C := RX5) (T := TX5) (N := 11) hx hb hts (fun w h => List.mem_cons_of_mem _ (inWX5 w h)) hown hK hP 0 at_0 rfl 3 (by decide) (hts _ (List.mem_cons_of_mem _ kw_t1_160)) (fun _ h9 => h9) rfl dX5_tick_79 ?_
                      have hFc := mA_free (a := a) hS hA hAc
                      refine va_callv (va_runV (As := [.int t_28, .ref (a 5)]) (rest := []) ⟨hx, hb, hml, hown, hts⟩ (c_X0_takeLetters l dC dI cI cZ cS cC cJ a w2 H.size i2 hi_27 t_28 hD hI.self) (cwV 2 hts (gV (fun w h => List.mem_cons_of_mem _ h) kw_t2_86 kw_t2_87 kw_t2_88 kw_t1_5 kw_t2_89) rfl rfl rfl (by decide +kernel) ⟨Nat.le_of_ble_eq_true rfl, Nat.le_of_ble_eq_true rfl⟩) ⟨fun av U g mk q => by obtain ⟨q0, q1, qP, qK, qN⟩ := q; exact ⟨q0, q1, qP, va_K.moved (u := U) (U := U.calling g mk av) (Vm.Alike.refl U.vm) qK, mN_same qN⟩, va_recv hK hP (ci := 0) (q0 := (9 + 3 * i2)) rfl (at_C hi_27), fun U hU hW => ⟨rfl, by rw [hU], by rw [hU]; exact hP, va_K.moved hW.alike hK, mN_warm hW hN⟩⟩ rfl rfl hl.1 rfl (lv_room (Nat.le_of_ble_eq_true rfl)) dX5_tick_82 ⟨Nat.le_of_ble_eq_true rfl, Nat.le_of_ble_eq_true rfl⟩) hS (fun q _ h => hFc q h) hFc (fun v_29 t H locs ht hvm hw_29 hP _ _ hS => ?_)
                      have hP := kt_heap2 ht hP
                      clear ht hFc
                      have hP : va_P (dC, dI) vwCl (mW cI cZ cS cC cJ a v_29) H := hP
                      have hI := hI.trans hw_29
                      obtain ⟨t_30, et_30⟩ : ∃ y : Int32, y = k2 + 1 := ⟨_, rfl⟩
                      refine lv_iinc (v := t_30) (lv' := [(4, .int t_30), (3, .int k1), (2, .int t_7), (0, .ref (a 0)), (1, .int p0)]) hx hb dX5_tick_85 hl (k := 0) rfl (by rw [et_30]; rfl) (by decide) rfl (fun ls hl => ?_)
                      refine lv_goto (tgt := 58) hx hb dX5_tick_88 (by decide) ?_
                      exact ih2 (i2 + 1) t_30 v_29 _ _ _ (by omega) (by omega) (by rw [et_30, ek2]; exact nI_1 i2) hP hS (lv_sub hl [0, 1, 2, 3, 4] rfl) hI ⟨hw_29.2.1.trans hJ2.1, hw_29.2.2.1.trans hJ2.2.1, hw_29.2.2.2.trans hJ2.2.2⟩
                exact key2 (12 + 1) 0 0 v_14 _ _ _ (Nat.zero_le _) (by omega) rfl hP hS (lv_sub hl [0, 1, 2, 3, 4] rfl) hI ⟨rfl, rfl, rfl⟩
        exact key1 (2000 + 1) 0 0 v _ _ _ (Nat.zero_le _) (by omega) rfl hP hS (lv_sub hl [0, 1, 2, 3] rfl) hI ⟨rfl, rfl, by omega, by omega⟩
      · refine lv_iconst (v := (-1)) hx hb dX5_tick_22 (by decide) ?_
        rw [hQ9]
        have hsb9 := kt_sub (x := 100000) (y := t_3) (by decide) (by rw [et_3]; exact hnw) et_4
        rw [et_3, L100000] at hsb9
        exact W.iret (v := (-1)) hx hb hr (fun t ht hW => ⟨⟨(-1), v, rfl, ⟨hI, ⟨by rw [sp_tk, if_pos (by have z := c_5; rw [Int32.le_iff_toInt_le] at z; right; right; omega)], by rw [sn_tk, if_pos (by have z := c_5; rw [Int32.le_iff_toInt_le] at z; right; right; omega)], rfl, rfl⟩⟩, kt_heap ht hP⟩, hS.F ht⟩) hS.2.2 dX5_tick_23

set_option maxHeartbeats 4000000 in
set_option maxRecDepth 100000 in
theorem c_X5_ask (l : Launch) (dC : Nat → ClassId) (dI : Nat → Nat → Nat) (cI cZ cS cC cJ : ClassId) (a : Nat → Nat) (v : Nat → Nat → Int32) (sz : Nat) (p0 p1 p2 : Int32) (hD : mDD a) (hI : kI v v) : Met l yX5_ask (Cond.code yX5_ask cX5_ask 7 (some .int) :: WW) ({ frames := 3, cells := 0, slots := 0, locals := 90 }) (va_Pc [.ref (a 0), .int p0, .int p1, .int p2] (fun U => U.heap.size = sz ∧ va_P (dC, dI) vwCl (mW cI cZ cS cC cJ a v) U.heap ∧ va_K (dC, dI) vwCl [(cI, .int), (cZ, .boolean), (cS, .object RX3), (cC, .object RX0), (cJ, .long)] U ∧ mN U)) (va_Qi (fun (r : Int32) (u : Nat → Nat → Int32) => kI v u) (fun (u : Nat → Nat → Int32) (t : State) => va_P (dC, dI) vwCl (mW cI cZ cS cC cJ a u) t.heap) (mA a sz)) 0 0 (mA a sz) := by
  refine Met.ofW (cc := cX5_ask) (maxL := 7) (ret := (some .int)) (by decide) rfl ?_
  intro p e s m args below meth c s₁ B hml hv
  obtain ⟨rfl, hsz, hP, hK, hN⟩ := hv
  have hx := B.exec
  have hb := B.bytes
  have hr := B.returns
  have hts := atoms_spec (ws := Cond.code yX5_ask cX5_ask 7 (some .int) :: WW) B.pre
  have hown : s.vm.findClass RX5 = some m.cls := findClass_of_methodNamed B.named
  have hlocks := B.notSynchronized
  subst hsz
  have hAc : ∀ c, c < 81 → mA a s.heap.size (a c) := fun c h => Or.inl ⟨c, h, rfl⟩
  have hA : ∀ q : Nat, s.heap.size ≤ q → mA a s.heap.size q := fun q h => Or.inr h
  generalize hAe : mA a s.heap.size = A at hAc hA ⊢
  have hS : va_S A s.heap s.heap [] := va_S.rf
  have hl := lv_entry ([.ref (a 0), .int p0, .int p1, .int p2]) (n := 7) (Nat.le_of_ble_eq_true rfl)
  rw [lg_entry_eq]
  generalize (lg_sl ([.ref (a 0), .int p0, .int p1, .int p2]) ++ List.replicate (7 - (lg_sl ([.ref (a 0), .int p0, .int p1, .int p2])).length) Slot.unset).toArray = ls at hl ⊢
  have hl : lv_has ls 7 [(0, .ref (a 0)), (1, .int p0), (2, .int p1), (3, .int p2)] := hl
  refine lv_aload_n hx hb dX5_ask_0 rfl (lv_at hl 0 rfl) ?_
  refine lv_iload_n hx hb dX5_ask_1 rfl (lv_at hl 2 rfl) ?_
  have hFc := mA_free (a := a) hS hA hAc
  refine va_calli (va_runV (As := [.int p1]) (rest := []) ⟨hx, hb, hml, hown, hts⟩ (c_X5_isSecret l dC dI cI cZ cS cC cJ a v s.heap.size p1 hD hI.self) (cwV 1 hts (gV (fun w h => List.mem_cons_of_mem _ h) kw_t1_203 kw_t1_205 kw_s0_0 kw_t1_1 kw_t1_206) rfl rfl rfl (by decide +kernel) ⟨Nat.le_of_ble_eq_true rfl, Nat.le_of_ble_eq_true rfl⟩) ⟨fun av U g mk q => by obtain ⟨q0, q1, qP, qK, qN⟩ := q; exact ⟨q0, q1, qP, va_K.moved (u := U) (U := U.calling g mk av) (Vm.Alike.refl U.vm) qK, mN_same qN⟩, va_recv hK hP (ci := 5) (q0 := 0) rfl at_0, fun U hU hW => ⟨rfl, by rw [hU], by rw [hU]; exact hP, va_K.moved hW.alike hK, mN_warm hW hN⟩⟩ rfl rfl hl.1 rfl (lv_room (Nat.le_of_ble_eq_true rfl)) dX5_ask_2 ⟨Nat.le_of_ble_eq_true rfl, Nat.le_of_ble_eq_true rfl⟩) hS (fun q _ h => hFc q h) hFc (fun r_1 _ t H locs ht hvm hw_1 hP _ _ hS => ?_)
  have hP := kt_heap2 ht hP
  clear ht hFc
  have hP : va_P (dC, dI) vwCl (mW cI cZ cS cC cJ a v) H := hP
  rcases hw_1 with ⟨hz_2, hns_2⟩ | ⟨hz_2, his_2, ix_2, hx_2, ex_2⟩
  · subst hz_2
    refine lv_if_ne (tgt := 10) hx hb dX5_ask_5 (by decide) (fun c_3 => absurd (by decide) c_3) (fun c_3 => ?_)
    refine lv_iconst (v := (-1)) hx hb dX5_ask_8 (by decide) ?_
    exact W.iret (v := (-1)) hx hb hr (fun t ht hW => ⟨⟨(-1), v, rfl, hI, kt_heap ht hP⟩, hS.F ht⟩) hS.2.2 dX5_ask_9
  · subst hz_2
    refine lv_if_ne (tgt := 10) hx hb dX5_ask_5 (by decide) (fun c_4 => ?_) (fun c_4 => absurd c_4 (by decide))
    refine lv_aload_n hx hb dX5_ask_10 rfl (lv_at hl 0 rfl) ?_
    refine va_get (D := (dC, dI)) (ci := 5) (v := .ref (a 1)) (C := RX5) (T := TX5) (N := 11) hx hb hts (fun w h => List.mem_cons_of_mem _ (inWX5 w h)) hown hK hP 0 at_0 rfl 0 (by decide) (hts _ (List.mem_cons_of_mem _ kw_t1_157)) (fun _ h9 => h9) rfl dX5_ask_11 ?_
    refine lv_iload_n hx hb dX5_ask_14 rfl (lv_at hl 2 rfl) ?_
    refine m_aldS hx hb hK hP ex_2 hx_2 dX5_ask_15 ?_
    refine lv_astore (lv' := [(4, .ref (a (10 + 3 * ix_2))), (0, .ref (a 0)), (1, .int p0), (2, .int p1), (3, .int p2)]) hx hb dX5_ask_16 hl (by decide) rfl (fun ls hl => ?_)
    refine lv_aload hx hb dX5_ask_18 (lv_at hl 0 rfl) ?_
    refine va_get (D := (dC, dI)) (ci := 3) (v := .int (v (10 + 3 * ix_2) 1)) (C := RX3) (T := TX3) (N := 10) hx hb hts (fun w h => List.mem_cons_of_mem _ (inWX3 w h)) hown hK hP (10 + 3 * ix_2) (at_S hx_2) rfl 1 (by decide) (hts _ (List.mem_cons_of_mem _ kw_t1_85)) (fun _ h9 => h9) rfl dX5_ask_20 ?_
    refine lv_topi (fun t_5 et_5 => ?_)
    refine lv_iload_n hx hb dX5_ask_23 rfl (lv_at hl 2 rfl) ?_
    have hFc := mA_free (a := a) hS hA hAc
    refine va_calli (va_runS (As := [.int t_5, .int p0]) (rest := []) ⟨hx, hb, hml, hown, hts⟩ (c_X5_isIn l dC dI cI cZ cS cC cJ a v H.size t_5 p0 hD hI.self) (va_cwS 2 hts (gS (fun w h => List.mem_cons_of_mem _ h) kw_t2_112 kw_t1_212 kw_t1_1 kw_t1_213) rfl rfl rfl (by decide +kernel) ⟨Nat.le_of_ble_eq_true rfl, Nat.le_of_ble_eq_true rfl⟩) ⟨fun av U g mk q => by obtain ⟨q0, q1, qP, qK, qN⟩ := q; exact ⟨q0, q1, qP, va_K.moved (u := U) (U := U.calling g mk av) (Vm.Alike.refl U.vm) qK, mN_same qN⟩, fun U hU hW => ⟨rfl, by rw [hU], by rw [hU]; exact hP, va_K.moved hW.alike hK, mN_warm hW hN⟩⟩ rfl rfl hl.1 rfl (lv_room (Nat.le_of_ble_eq_true rfl)) dX5_ask_24 ⟨Nat.le_of_ble_eq_true rfl, Nat.le_of_ble_eq_true rfl⟩) hS (fun q _ h => hFc q h) hFc (fun r_6 _ t H locs ht hvm hw_6 hP _ _ hS => ?_)
    have hP := kt_heap2 ht hP
    clear ht hFc
    have hP : va_P (dC, dI) vwCl (mW cI cZ cS cC cJ a v) H := hP
    refine lv_if_eq (tgt := 42) hx hb dX5_ask_27 (by decide) (fun c_7 => ?_) (fun c_7 => ?_)
    · refine lv_iconst (v := (-1)) hx hb dX5_ask_42 (by decide) ?_
      exact W.iret (v := (-1)) hx hb hr (fun t ht hW => ⟨⟨(-1), v, rfl, hI, kt_heap ht hP⟩, hS.F ht⟩) hS.2.2 dX5_ask_43
    · refine lv_aload hx hb dX5_ask_30 (lv_at hl 0 rfl) ?_
      refine va_get (D := (dC, dI)) (ci := 3) (v := .int (v (10 + 3 * ix_2) 2)) (C := RX3) (T := TX3) (N := 10) hx hb hts (fun w h => List.mem_cons_of_mem _ (inWX3 w h)) hown hK hP (10 + 3 * ix_2) (at_S hx_2) rfl 2 (by decide) (hts _ (List.mem_cons_of_mem _ kw_t1_88)) (fun _ h9 => h9) rfl dX5_ask_32 ?_
      refine lv_topi (fun t_8 et_8 => ?_)
      refine lv_iload_n hx hb dX5_ask_35 rfl (lv_at hl 4 rfl) ?_
      have hFc := mA_free (a := a) hS hA hAc
      refine va_calli (va_runS (As := [.int t_8, .int p2]) (rest := []) ⟨hx, hb, hml, hown, hts⟩ (c_X5_isIn l dC dI cI cZ cS cC cJ a v H.size t_8 p2 hD hI.self) (va_cwS 2 hts (gS (fun w h => List.mem_cons_of_mem _ h) kw_t2_112 kw_t1_212 kw_t1_1 kw_t1_213) rfl rfl rfl (by decide +kernel) ⟨Nat.le_of_ble_eq_true rfl, Nat.le_of_ble_eq_true rfl⟩) ⟨fun av U g mk q => by obtain ⟨q0, q1, qP, qK, qN⟩ := q; exact ⟨q0, q1, qP, va_K.moved (u := U) (U := U.calling g mk av) (Vm.Alike.refl U.vm) qK, mN_same qN⟩, fun U hU hW => ⟨rfl, by rw [hU], by rw [hU]; exact hP, va_K.moved hW.alike hK, mN_warm hW hN⟩⟩ rfl rfl hl.1 rfl (lv_room (Nat.le_of_ble_eq_true rfl)) dX5_ask_36 ⟨Nat.le_of_ble_eq_true rfl, Nat.le_of_ble_eq_true rfl⟩) hS (fun q _ h => hFc q h) hFc (fun r_9 _ t H locs ht hvm hw_9 hP _ _ hS => ?_)
      have hP := kt_heap2 ht hP
      clear ht hFc
      have hP : va_P (dC, dI) vwCl (mW cI cZ cS cC cJ a v) H := hP
      refine lv_if_ne (tgt := 44) hx hb dX5_ask_39 (by decide) (fun c_10 => ?_) (fun c_10 => ?_)
      · refine lv_aload hx hb dX5_ask_44 (lv_at hl 0 rfl) ?_
        refine lv_iload_n hx hb dX5_ask_46 rfl (lv_at hl 2 rfl) ?_
        have hFc := mA_free (a := a) hS hA hAc
        refine va_calli (va_runV (As := [.int p0]) (rest := []) ⟨hx, hb, hml, hown, hts⟩ (c_X3_versionOf l dC dI cI cZ cS cC cJ a v H.size ix_2 hx_2 p0 hD hI.self) (cwV 1 hts (gV (fun w h => List.mem_cons_of_mem _ h) kw_t2_113 kw_t2_114 kw_t2_115 kw_t1_6 kw_t2_116) rfl rfl rfl (by decide +kernel) ⟨Nat.le_of_ble_eq_true rfl, Nat.le_of_ble_eq_true rfl⟩) ⟨fun av U g mk q => by obtain ⟨q0, q1, qP, qK, qN⟩ := q; exact ⟨q0, q1, qP, va_K.moved (u := U) (U := U.calling g mk av) (Vm.Alike.refl U.vm) qK, mN_same qN⟩, va_recv hK hP (ci := 3) (q0 := (10 + 3 * ix_2)) rfl (at_S hx_2), fun U hU hW => ⟨rfl, by rw [hU], by rw [hU]; exact hP, va_K.moved hW.alike hK, mN_warm hW hN⟩⟩ rfl rfl hl.1 rfl (lv_room (Nat.le_of_ble_eq_true rfl)) dX5_ask_47 ⟨Nat.le_of_ble_eq_true rfl, Nat.le_of_ble_eq_true rfl⟩) hS (fun q _ h => hFc q h) hFc (fun r_11 _ t H locs ht hvm hw_11 hP _ _ hS => ?_)
        have hP := kt_heap2 ht hP
        clear ht hFc
        have hP : va_P (dC, dI) vwCl (mW cI cZ cS cC cJ a v) H := hP
        refine lv_istore (lv' := [(5, .int r_11), (4, .ref (a (10 + 3 * ix_2))), (0, .ref (a 0)), (1, .int p0), (2, .int p1), (3, .int p2)]) hx hb dX5_ask_50 hl (by decide) rfl (fun ls hl => ?_)
        refine lv_aload_n hx hb dX5_ask_52 rfl (lv_at hl 2 rfl) ?_
        refine va_get (D := (dC, dI)) (ci := 5) (v := .ref (a 5)) (C := RX5) (T := TX5) (N := 11) hx hb hts (fun w h => List.mem_cons_of_mem _ (inWX5 w h)) hown hK hP 0 at_0 rfl 3 (by decide) (hts _ (List.mem_cons_of_mem _ kw_t1_160)) (fun _ h9 => h9) rfl dX5_ask_53 ?_
        refine lv_iload_n hx hb dX5_ask_56 rfl (lv_at hl 3 rfl) ?_
        have hFc := mA_free (a := a) hS hA hAc
        refine va_calli (va_runV (As := [.int p0]) (rest := []) ⟨hx, hb, hml, hown, hts⟩ (c_X2_isDown l dC dI cI cZ cS cC cJ a v H.size p0 hD hI.self) (cwV 1 hts (gV (fun w h => List.mem_cons_of_mem _ h) kw_t1_234 kw_t1_235 kw_t1_236 kw_t1_3 kw_t1_237) rfl rfl rfl (by decide +kernel) ⟨Nat.le_of_ble_eq_true rfl, Nat.le_of_ble_eq_true rfl⟩) ⟨fun av U g mk q => by obtain ⟨q0, q1, qP, qK, qN⟩ := q; exact ⟨q0, q1, qP, va_K.moved (u := U) (U := U.calling g mk av) (Vm.Alike.refl U.vm) qK, mN_same qN⟩, va_recv hK hP (ci := 2) (q0 := 5) rfl at_5, fun U hU hW => ⟨rfl, by rw [hU], by rw [hU]; exact hP, va_K.moved hW.alike hK, mN_warm hW hN⟩⟩ rfl rfl hl.1 rfl (lv_room (Nat.le_of_ble_eq_true rfl)) dX5_ask_57 ⟨Nat.le_of_ble_eq_true rfl, Nat.le_of_ble_eq_true rfl⟩) hS (fun q _ h => hFc q h) hFc (fun r_12 _ t H locs ht hvm hw_12 hP _ _ hS => ?_)
        have hP := kt_heap2 ht hP
        clear ht hFc
        have hP : va_P (dC, dI) vwCl (mW cI cZ cS cC cJ a v) H := hP
        refine lv_if_ne (tgt := 79) hx hb dX5_ask_60 (by decide) (fun c_13 => ?_) (fun c_13 => ?_)
        · refine lv_iconst (v := 0) hx hb dX5_ask_79 (by decide) ?_
          refine lv_istore (lv' := [(6, .int 0), (5, .int r_11), (4, .ref (a (10 + 3 * ix_2))), (0, .ref (a 0)), (1, .int p0), (2, .int p1), (3, .int p2)]) hx hb dX5_ask_80 hl (by decide) rfl (fun ls hl => ?_)
          refine lv_aload_n hx hb dX5_ask_82 rfl (lv_at hl 3 rfl) ?_
          refine lv_aload_n hx hb dX5_ask_83 rfl (lv_at hl 3 rfl) ?_
          refine va_get (D := (dC, dI)) (ci := 5) (v := .ref (a 2)) (C := RX5) (T := TX5) (N := 11) hx hb hts (fun w h => List.mem_cons_of_mem _ (inWX5 w h)) hown hK hP 0 at_0 rfl 1 (by decide) (hts _ (List.mem_cons_of_mem _ kw_t1_158)) (fun _ h9 => h9) rfl dX5_ask_84 ?_
          refine lv_iload_n hx hb dX5_ask_87 rfl (lv_at hl 5 rfl) ?_
          refine m_aldC hx hb hK hP ex_2 hx_2 dX5_ask_88 ?_
          refine lv_iload_n hx hb dX5_ask_89 rfl (lv_at hl 4 rfl) ?_
          refine lv_iload hx hb dX5_ask_90 (lv_at hl 1 rfl) ?_
          refine lv_iload hx hb dX5_ask_92 (lv_at hl 0 rfl) ?_
          have hFc := mA_free (a := a) hS hA hAc
          refine va_calli (va_runV (As := [.ref (a (9 + 3 * ix_2)), .int p0, .int r_11, .int 0]) (rest := []) ⟨hx, hb, hml, hown, hts⟩ (c_X5_noteAsk l dC dI cI cZ cS cC cJ a v H.size ix_2 hx_2 p0 r_11 0 hD hI.self) (cwV 4 hts (gV (fun w h => List.mem_cons_of_mem _ h) kw_t2_126 kw_t2_128 kw_s0_6 kw_t1_1 kw_t2_129) rfl rfl rfl (by decide +kernel) ⟨Nat.le_of_ble_eq_true rfl, Nat.le_of_ble_eq_true rfl⟩) ⟨fun av U g mk q => by obtain ⟨q0, q1, qP, qK, qN⟩ := q; exact ⟨q0, q1, qP, va_K.moved (u := U) (U := U.calling g mk av) (Vm.Alike.refl U.vm) qK, mN_same qN⟩, va_recv hK hP (ci := 5) (q0 := 0) rfl at_0, fun U hU hW => ⟨rfl, by rw [hU], by rw [hU]; exact hP, va_K.moved hW.alike hK, mN_warm hW hN⟩⟩ rfl rfl hl.1 rfl (lv_room (Nat.le_of_ble_eq_true rfl)) dX5_ask_94 ⟨Nat.le_of_ble_eq_true rfl, Nat.le_of_ble_eq_true rfl⟩) hS (fun q _ h => hFc q h) hFc (fun r_14 v_14 t H locs ht hvm hw_14 hP _ _ hS => ?_)
          have hP := kt_heap2 ht hP
          clear ht hFc
          have hP : va_P (dC, dI) vwCl (mW cI cZ cS cC cJ a v_14) H := hP
          have hI := hI.trans hw_14
          exact W.iret (v := r_14) hx hb hr (fun t ht hW => ⟨⟨r_14, v_14, rfl, hI, kt_heap ht hP⟩, hS.F ht⟩) hS.2.2 dX5_ask_97
        · refine lv_aload_n hx hb dX5_ask_63 rfl (lv_at hl 2 rfl) ?_
          refine lv_aload hx hb dX5_ask_64 (lv_at hl 1 rfl) ?_
          refine lv_iload_n hx hb dX5_ask_66 rfl (lv_at hl 5 rfl) ?_
          refine lv_iload hx hb dX5_ask_67 (lv_at hl 0 rfl) ?_
          have hFc := mA_free (a := a) hS hA hAc
          refine va_calli (va_runV (As := [.ref (a (10 + 3 * ix_2)), .int p2, .int r_11]) (rest := []) ⟨hx, hb, hml, hown, hts⟩ (c_X5_opens l dC dI cI cZ cS cC cJ a v H.size ix_2 hx_2 p2 r_11 hD hI.self) (cwV 3 hts (gV (fun w h => List.mem_cons_of_mem _ h) kw_t2_118 kw_t2_120 kw_s0_5 kw_t1_1 kw_t2_121) rfl rfl rfl (by decide +kernel) ⟨Nat.le_of_ble_eq_true rfl, Nat.le_of_ble_eq_true rfl⟩) ⟨fun av U g mk q => by obtain ⟨q0, q1, qP, qK, qN⟩ := q; exact ⟨q0, q1, qP, va_K.moved (u := U) (U := U.calling g mk av) (Vm.Alike.refl U.vm) qK, mN_same qN⟩, va_recv hK hP (ci := 5) (q0 := 0) rfl at_0, fun U hU hW => ⟨rfl, by rw [hU], by rw [hU]; exact hP, va_K.moved hW.alike hK, mN_warm hW hN⟩⟩ rfl rfl hl.1 rfl (lv_room (Nat.le_of_ble_eq_true rfl)) dX5_ask_69 ⟨Nat.le_of_ble_eq_true rfl, Nat.le_of_ble_eq_true rfl⟩) hS (fun q _ h => hFc q h) hFc (fun r_15 _ t H locs ht hvm hw_15 hP _ _ hS => ?_)
          have hP := kt_heap2 ht hP
          clear ht hFc
          have hP : va_P (dC, dI) vwCl (mW cI cZ cS cC cJ a v) H := hP
          refine lv_if_eq (tgt := 79) hx hb dX5_ask_72 (by decide) (fun c_16 => ?_) (fun c_16 => ?_)
          · refine lv_iconst (v := 0) hx hb dX5_ask_79 (by decide) ?_
            refine lv_istore (lv' := [(6, .int 0), (5, .int r_11), (4, .ref (a (10 + 3 * ix_2))), (0, .ref (a 0)), (1, .int p0), (2, .int p1), (3, .int p2)]) hx hb dX5_ask_80 hl (by decide) rfl (fun ls hl => ?_)
            refine lv_aload_n hx hb dX5_ask_82 rfl (lv_at hl 3 rfl) ?_
            refine lv_aload_n hx hb dX5_ask_83 rfl (lv_at hl 3 rfl) ?_
            refine va_get (D := (dC, dI)) (ci := 5) (v := .ref (a 2)) (C := RX5) (T := TX5) (N := 11) hx hb hts (fun w h => List.mem_cons_of_mem _ (inWX5 w h)) hown hK hP 0 at_0 rfl 1 (by decide) (hts _ (List.mem_cons_of_mem _ kw_t1_158)) (fun _ h9 => h9) rfl dX5_ask_84 ?_
            refine lv_iload_n hx hb dX5_ask_87 rfl (lv_at hl 5 rfl) ?_
            refine m_aldC hx hb hK hP ex_2 hx_2 dX5_ask_88 ?_
            refine lv_iload_n hx hb dX5_ask_89 rfl (lv_at hl 4 rfl) ?_
            refine lv_iload hx hb dX5_ask_90 (lv_at hl 1 rfl) ?_
            refine lv_iload hx hb dX5_ask_92 (lv_at hl 0 rfl) ?_
            have hFc := mA_free (a := a) hS hA hAc
            refine va_calli (va_runV (As := [.ref (a (9 + 3 * ix_2)), .int p0, .int r_11, .int 0]) (rest := []) ⟨hx, hb, hml, hown, hts⟩ (c_X5_noteAsk l dC dI cI cZ cS cC cJ a v H.size ix_2 hx_2 p0 r_11 0 hD hI.self) (cwV 4 hts (gV (fun w h => List.mem_cons_of_mem _ h) kw_t2_126 kw_t2_128 kw_s0_6 kw_t1_1 kw_t2_129) rfl rfl rfl (by decide +kernel) ⟨Nat.le_of_ble_eq_true rfl, Nat.le_of_ble_eq_true rfl⟩) ⟨fun av U g mk q => by obtain ⟨q0, q1, qP, qK, qN⟩ := q; exact ⟨q0, q1, qP, va_K.moved (u := U) (U := U.calling g mk av) (Vm.Alike.refl U.vm) qK, mN_same qN⟩, va_recv hK hP (ci := 5) (q0 := 0) rfl at_0, fun U hU hW => ⟨rfl, by rw [hU], by rw [hU]; exact hP, va_K.moved hW.alike hK, mN_warm hW hN⟩⟩ rfl rfl hl.1 rfl (lv_room (Nat.le_of_ble_eq_true rfl)) dX5_ask_94 ⟨Nat.le_of_ble_eq_true rfl, Nat.le_of_ble_eq_true rfl⟩) hS (fun q _ h => hFc q h) hFc (fun r_17 v_17 t H locs ht hvm hw_17 hP _ _ hS => ?_)
            have hP := kt_heap2 ht hP
            clear ht hFc
            have hP : va_P (dC, dI) vwCl (mW cI cZ cS cC cJ a v_17) H := hP
            have hI := hI.trans hw_17
            exact W.iret (v := r_17) hx hb hr (fun t ht hW => ⟨⟨r_17, v_17, rfl, hI, kt_heap ht hP⟩, hS.F ht⟩) hS.2.2 dX5_ask_97
          · refine lv_iconst (v := 1) hx hb dX5_ask_75 (by decide) ?_
            refine lv_goto (tgt := 80) hx hb dX5_ask_76 (by decide) ?_
            refine lv_istore (lv' := [(6, .int 1), (5, .int r_11), (4, .ref (a (10 + 3 * ix_2))), (0, .ref (a 0)), (1, .int p0), (2, .int p1), (3, .int p2)]) hx hb dX5_ask_80 hl (by decide) rfl (fun ls hl => ?_)
            refine lv_aload_n hx hb dX5_ask_82 rfl (lv_at hl 3 rfl) ?_
            refine lv_aload_n hx hb dX5_ask_83 rfl (lv_at hl 3 rfl) ?_
            refine va_get (D := (dC, dI)) (ci := 5) (v := .ref (a 2)) (C := RX5) (T := TX5) (N := 11) hx hb hts (fun w h => List.mem_cons_of_mem _ (inWX5 w h)) hown hK hP 0 at_0 rfl 1 (by decide) (hts _ (List.mem_cons_of_mem _ kw_t1_158)) (fun _ h9 => h9) rfl dX5_ask_84 ?_
            refine lv_iload_n hx hb dX5_ask_87 rfl (lv_at hl 5 rfl) ?_
            refine m_aldC hx hb hK hP ex_2 hx_2 dX5_ask_88 ?_
            refine lv_iload_n hx hb dX5_ask_89 rfl (lv_at hl 4 rfl) ?_
            refine lv_iload hx hb dX5_ask_90 (lv_at hl 1 rfl) ?_
            refine lv_iload hx hb dX5_ask_92 (lv_at hl 0 rfl) ?_
            have hFc := mA_free (a := a) hS hA hAc
            refine va_calli (va_runV (As := [.ref (a (9 + 3 * ix_2)), .int p0, .int r_11, .int 1]) (rest := []) ⟨hx, hb, hml, hown, hts⟩ (c_X5_noteAsk l dC dI cI cZ cS cC cJ a v H.size ix_2 hx_2 p0 r_11 1 hD hI.self) (cwV 4 hts (gV (fun w h => List.mem_cons_of_mem _ h) kw_t2_126 kw_t2_128 kw_s0_6 kw_t1_1 kw_t2_129) rfl rfl rfl (by decide +kernel) ⟨Nat.le_of_ble_eq_true rfl, Nat.le_of_ble_eq_true rfl⟩) ⟨fun av U g mk q => by obtain ⟨q0, q1, qP, qK, qN⟩ := q; exact ⟨q0, q1, qP, va_K.moved (u := U) (U := U.calling g mk av) (Vm.Alike.refl U.vm) qK, mN_same qN⟩, va_recv hK hP (ci := 5) (q0 := 0) rfl at_0, fun U hU hW => ⟨rfl, by rw [hU], by rw [hU]; exact hP, va_K.moved hW.alike hK, mN_warm hW hN⟩⟩ rfl rfl hl.1 rfl (lv_room (Nat.le_of_ble_eq_true rfl)) dX5_ask_94 ⟨Nat.le_of_ble_eq_true rfl, Nat.le_of_ble_eq_true rfl⟩) hS (fun q _ h => hFc q h) hFc (fun r_18 v_18 t H locs ht hvm hw_18 hP _ _ hS => ?_)
            have hP := kt_heap2 ht hP
            clear ht hFc
            have hP : va_P (dC, dI) vwCl (mW cI cZ cS cC cJ a v_18) H := hP
            have hI := hI.trans hw_18
            exact W.iret (v := r_18) hx hb hr (fun t ht hW => ⟨⟨r_18, v_18, rfl, hI, kt_heap ht hP⟩, hS.F ht⟩) hS.2.2 dX5_ask_97
      · refine lv_iconst (v := (-1)) hx hb dX5_ask_42 (by decide) ?_
        exact W.iret (v := (-1)) hx hb hr (fun t ht hW => ⟨⟨(-1), v, rfl, hI, kt_heap ht hP⟩, hS.F ht⟩) hS.2.2 dX5_ask_43

set_option maxHeartbeats 4000000 in
set_option maxRecDepth 100000 in
theorem c_X5_stranger (l : Launch) (dC : Nat → ClassId) (dI : Nat → Nat → Nat) (cI cZ cS cC cJ : ClassId) (a : Nat → Nat) (v : Nat → Nat → Int32) (sz : Nat) (p0 p1 p2 p3 : Int32) (hD : mDD a) (hI : kI v v) : Met l yX5_stranger (Cond.code yX5_stranger cX5_stranger 6 (some .int) :: WW) ({ frames := 3, cells := 0, slots := 0, locals := 90 }) (va_Pc [.ref (a 0), .int p0, .int p1, .int p2, .int p3] (fun U => U.heap.size = sz ∧ va_P (dC, dI) vwCl (mW cI cZ cS cC cJ a v) U.heap ∧ va_K (dC, dI) vwCl [(cI, .int), (cZ, .boolean), (cS, .object RX3), (cC, .object RX0), (cJ, .long)] U ∧ mN U)) (va_Qi (fun (r : Int32) (u : Nat → Nat → Int32) => kI v u) (fun (u : Nat → Nat → Int32) (t : State) => va_P (dC, dI) vwCl (mW cI cZ cS cC cJ a u) t.heap) (mA a sz)) 0 0 (mA a sz) := by
  refine Met.ofW (cc := cX5_stranger) (maxL := 6) (ret := (some .int)) (by decide) rfl ?_
  intro p e s m args below meth c s₁ B hml hv
  obtain ⟨rfl, hsz, hP, hK, hN⟩ := hv
  have hx := B.exec
  have hb := B.bytes
  have hr := B.returns
  have hts := atoms_spec (ws := Cond.code yX5_stranger cX5_stranger 6 (some .int) :: WW) B.pre
  have hown : s.vm.findClass RX5 = some m.cls := findClass_of_methodNamed B.named
  have hlocks := B.notSynchronized
  subst hsz
  have hAc : ∀ c, c < 81 → mA a s.heap.size (a c) := fun c h => Or.inl ⟨c, h, rfl⟩
  have hA : ∀ q : Nat, s.heap.size ≤ q → mA a s.heap.size q := fun q h => Or.inr h
  generalize hAe : mA a s.heap.size = A at hAc hA ⊢
  have hS : va_S A s.heap s.heap [] := va_S.rf
  have hl := lv_entry ([.ref (a 0), .int p0, .int p1, .int p2, .int p3]) (n := 6) (Nat.le_of_ble_eq_true rfl)
  rw [lg_entry_eq]
  generalize (lg_sl ([.ref (a 0), .int p0, .int p1, .int p2, .int p3]) ++ List.replicate (6 - (lg_sl ([.ref (a 0), .int p0, .int p1, .int p2, .int p3])).length) Slot.unset).toArray = ls at hl ⊢
  have hl : lv_has ls 6 [(0, .ref (a 0)), (1, .int p0), (2, .int p1), (3, .int p2), (4, .int p3)] := hl
  refine lv_aload_n hx hb dX5_stranger_0 rfl (lv_at hl 0 rfl) ?_
  refine lv_iload_n hx hb dX5_stranger_1 rfl (lv_at hl 2 rfl) ?_
  have hFc := mA_free (a := a) hS hA hAc
  refine va_calli (va_runV (As := [.int p1]) (rest := []) ⟨hx, hb, hml, hown, hts⟩ (c_X5_isSecret l dC dI cI cZ cS cC cJ a v s.heap.size p1 hD hI.self) (cwV 1 hts (gV (fun w h => List.mem_cons_of_mem _ h) kw_t1_203 kw_t1_205 kw_s0_0 kw_t1_1 kw_t1_206) rfl rfl rfl (by decide +kernel) ⟨Nat.le_of_ble_eq_true rfl, Nat.le_of_ble_eq_true rfl⟩) ⟨fun av U g mk q => by obtain ⟨q0, q1, qP, qK, qN⟩ := q; exact ⟨q0, q1, qP, va_K.moved (u := U) (U := U.calling g mk av) (Vm.Alike.refl U.vm) qK, mN_same qN⟩, va_recv hK hP (ci := 5) (q0 := 0) rfl at_0, fun U hU hW => ⟨rfl, by rw [hU], by rw [hU]; exact hP, va_K.moved hW.alike hK, mN_warm hW hN⟩⟩ rfl rfl hl.1 rfl (lv_room (Nat.le_of_ble_eq_true rfl)) dX5_stranger_2 ⟨Nat.le_of_ble_eq_true rfl, Nat.le_of_ble_eq_true rfl⟩) hS (fun q _ h => hFc q h) hFc (fun r_1 _ t H locs ht hvm hw_1 hP _ _ hS => ?_)
  have hP := kt_heap2 ht hP
  clear ht hFc
  have hP : va_P (dC, dI) vwCl (mW cI cZ cS cC cJ a v) H := hP
  rcases hw_1 with ⟨hz_2, hns_2⟩ | ⟨hz_2, his_2, ix_2, hx_2, ex_2⟩
  · subst hz_2
    refine lv_if_eq (tgt := 18) hx hb dX5_stranger_5 (by decide) (fun c_3 => ?_) (fun c_3 => absurd (by decide) c_3)
    refine lv_iconst (v := (-1)) hx hb dX5_stranger_18 (by decide) ?_
    exact W.iret (v := (-1)) hx hb hr (fun t ht hW => ⟨⟨(-1), v, rfl, hI, kt_heap ht hP⟩, hS.F ht⟩) hS.2.2 dX5_stranger_19
  · subst hz_2
    refine lv_if_eq (tgt := 18) hx hb dX5_stranger_5 (by decide) (fun c_4 => absurd c_4 (by decide)) (fun c_4 => ?_)
    refine lv_iload_n hx hb dX5_stranger_8 rfl (lv_at hl 1 rfl) ?_
    refine lv_if_lt (tgt := 18) hx hb dX5_stranger_9 (by decide) (fun c_5 => ?_) (fun c_5 => ?_)
    · refine lv_iconst (v := (-1)) hx hb dX5_stranger_18 (by decide) ?_
      exact W.iret (v := (-1)) hx hb hr (fun t ht hW => ⟨⟨(-1), v, rfl, hI, kt_heap ht hP⟩, hS.F ht⟩) hS.2.2 dX5_stranger_19
    · refine lv_iload_n hx hb dX5_stranger_12 rfl (lv_at hl 1 rfl) ?_
      refine lv_bipush (v := 10) hx hb dX5_stranger_13 (by decide) ?_
      refine lv_icmp_lt (tgt := 20) hx hb dX5_stranger_15 (by decide) (fun c_6 => ?_) (fun c_6 => ?_)
      · refine lv_aload_n hx hb dX5_stranger_20 rfl (lv_at hl 0 rfl) ?_
        refine va_get (D := (dC, dI)) (ci := 5) (v := .ref (a 1)) (C := RX5) (T := TX5) (N := 11) hx hb hts (fun w h => List.mem_cons_of_mem _ (inWX5 w h)) hown hK hP 0 at_0 rfl 0 (by decide) (hts _ (List.mem_cons_of_mem _ kw_t1_157)) (fun _ h9 => h9) rfl dX5_stranger_21 ?_
        refine lv_iload_n hx hb dX5_stranger_24 rfl (lv_at hl 2 rfl) ?_
        refine m_aldS hx hb hK hP ex_2 hx_2 dX5_stranger_25 ?_
        refine lv_astore (lv' := [(5, .ref (a (10 + 3 * ix_2))), (0, .ref (a 0)), (1, .int p0), (2, .int p1), (3, .int p2), (4, .int p3)]) hx hb dX5_stranger_26 hl (by decide) rfl (fun ls hl => ?_)
        refine lv_aload hx hb dX5_stranger_28 (lv_at hl 0 rfl) ?_
        refine va_get (D := (dC, dI)) (ci := 3) (v := .int (v (10 + 3 * ix_2) 1)) (C := RX3) (T := TX3) (N := 10) hx hb hts (fun w h => List.mem_cons_of_mem _ (inWX3 w h)) hown hK hP (10 + 3 * ix_2) (at_S hx_2) rfl 1 (by decide) (hts _ (List.mem_cons_of_mem _ kw_t1_85)) (fun _ h9 => h9) rfl dX5_stranger_30 ?_
        refine lv_topi (fun t_7 et_7 => ?_)
        refine lv_iload_n hx hb dX5_stranger_33 rfl (lv_at hl 2 rfl) ?_
        have hFc := mA_free (a := a) hS hA hAc
        refine va_calli (va_runS (As := [.int t_7, .int p0]) (rest := []) ⟨hx, hb, hml, hown, hts⟩ (c_X5_isIn l dC dI cI cZ cS cC cJ a v H.size t_7 p0 hD hI.self) (va_cwS 2 hts (gS (fun w h => List.mem_cons_of_mem _ h) kw_t2_112 kw_t1_212 kw_t1_1 kw_t1_213) rfl rfl rfl (by decide +kernel) ⟨Nat.le_of_ble_eq_true rfl, Nat.le_of_ble_eq_true rfl⟩) ⟨fun av U g mk q => by obtain ⟨q0, q1, qP, qK, qN⟩ := q; exact ⟨q0, q1, qP, va_K.moved (u := U) (U := U.calling g mk av) (Vm.Alike.refl U.vm) qK, mN_same qN⟩, fun U hU hW => ⟨rfl, by rw [hU], by rw [hU]; exact hP, va_K.moved hW.alike hK, mN_warm hW hN⟩⟩ rfl rfl hl.1 rfl (lv_room (Nat.le_of_ble_eq_true rfl)) dX5_stranger_34 ⟨Nat.le_of_ble_eq_true rfl, Nat.le_of_ble_eq_true rfl⟩) hS (fun q _ h => hFc q h) hFc (fun r_8 _ t H locs ht hvm hw_8 hP _ _ hS => ?_)
        have hP := kt_heap2 ht hP
        clear ht hFc
        have hP : va_P (dC, dI) vwCl (mW cI cZ cS cC cJ a v) H := hP
        refine lv_if_ne (tgt := 67) hx hb dX5_stranger_37 (by decide) (fun c_9 => ?_) (fun c_9 => ?_)
        · refine lv_iconst (v := (-1)) hx hb dX5_stranger_67 (by decide) ?_
          exact W.iret (v := (-1)) hx hb hr (fun t ht hW => ⟨⟨(-1), v, rfl, hI, kt_heap ht hP⟩, hS.F ht⟩) hS.2.2 dX5_stranger_68
        · refine lv_aload hx hb dX5_stranger_40 (lv_at hl 0 rfl) ?_
          refine va_get (D := (dC, dI)) (ci := 3) (v := .int (v (10 + 3 * ix_2) 2)) (C := RX3) (T := TX3) (N := 10) hx hb hts (fun w h => List.mem_cons_of_mem _ (inWX3 w h)) hown hK hP (10 + 3 * ix_2) (at_S hx_2) rfl 2 (by decide) (hts _ (List.mem_cons_of_mem _ kw_t1_88)) (fun _ h9 => h9) rfl dX5_stranger_42 ?_
          refine lv_topi (fun t_10 et_10 => ?_)
          refine lv_iload_n hx hb dX5_stranger_45 rfl (lv_at hl 4 rfl) ?_
          have hFc := mA_free (a := a) hS hA hAc
          refine va_calli (va_runS (As := [.int t_10, .int p2]) (rest := []) ⟨hx, hb, hml, hown, hts⟩ (c_X5_isIn l dC dI cI cZ cS cC cJ a v H.size t_10 p2 hD hI.self) (va_cwS 2 hts (gS (fun w h => List.mem_cons_of_mem _ h) kw_t2_112 kw_t1_212 kw_t1_1 kw_t1_213) rfl rfl rfl (by decide +kernel) ⟨Nat.le_of_ble_eq_true rfl, Nat.le_of_ble_eq_true rfl⟩) ⟨fun av U g mk q => by obtain ⟨q0, q1, qP, qK, qN⟩ := q; exact ⟨q0, q1, qP, va_K.moved (u := U) (U := U.calling g mk av) (Vm.Alike.refl U.vm) qK, mN_same qN⟩, fun U hU hW => ⟨rfl, by rw [hU], by rw [hU]; exact hP, va_K.moved hW.alike hK, mN_warm hW hN⟩⟩ rfl rfl hl.1 rfl (lv_room (Nat.le_of_ble_eq_true rfl)) dX5_stranger_46 ⟨Nat.le_of_ble_eq_true rfl, Nat.le_of_ble_eq_true rfl⟩) hS (fun q _ h => hFc q h) hFc (fun r_11 _ t H locs ht hvm hw_11 hP _ _ hS => ?_)
          have hP := kt_heap2 ht hP
          clear ht hFc
          have hP : va_P (dC, dI) vwCl (mW cI cZ cS cC cJ a v) H := hP
          refine lv_if_eq (tgt := 67) hx hb dX5_stranger_49 (by decide) (fun c_12 => ?_) (fun c_12 => ?_)
          · refine lv_iconst (v := (-1)) hx hb dX5_stranger_67 (by decide) ?_
            exact W.iret (v := (-1)) hx hb hr (fun t ht hW => ⟨⟨(-1), v, rfl, hI, kt_heap ht hP⟩, hS.F ht⟩) hS.2.2 dX5_stranger_68
          · refine lv_iload hx hb dX5_stranger_52 (lv_at hl 5 rfl) ?_
            refine lv_if_lt (tgt := 67) hx hb dX5_stranger_54 (by decide) (fun c_13 => ?_) (fun c_13 => ?_)
            · refine lv_iconst (v := (-1)) hx hb dX5_stranger_67 (by decide) ?_
              exact W.iret (v := (-1)) hx hb hr (fun t ht hW => ⟨⟨(-1), v, rfl, hI, kt_heap ht hP⟩, hS.F ht⟩) hS.2.2 dX5_stranger_68
            · refine lv_iload hx hb dX5_stranger_57 (lv_at hl 5 rfl) ?_
              refine lv_aload hx hb dX5_stranger_59 (lv_at hl 0 rfl) ?_
              refine va_get (D := (dC, dI)) (ci := 3) (v := .int (v (10 + 3 * ix_2) 4)) (C := RX3) (T := TX3) (N := 10) hx hb hts (fun w h => List.mem_cons_of_mem _ (inWX3 w h)) hown hK hP (10 + 3 * ix_2) (at_S hx_2) rfl 4 (by decide) (hts _ (List.mem_cons_of_mem _ kw_t1_92)) (fun _ h9 => h9) rfl dX5_stranger_61 ?_
              refine lv_topi (fun t_14 et_14 => ?_)
              refine lv_icmp_le (tgt := 69) hx hb dX5_stranger_64 (by decide) (fun c_15 => ?_) (fun c_15 => ?_)
              · refine lv_aload_n hx hb dX5_stranger_69 rfl (lv_at hl 1 rfl) ?_
                refine lv_aload_n hx hb dX5_stranger_70 rfl (lv_at hl 1 rfl) ?_
                refine va_get (D := (dC, dI)) (ci := 5) (v := .ref (a 2)) (C := RX5) (T := TX5) (N := 11) hx hb hts (fun w h => List.mem_cons_of_mem _ (inWX5 w h)) hown hK hP 0 at_0 rfl 1 (by decide) (hts _ (List.mem_cons_of_mem _ kw_t1_158)) (fun _ h9 => h9) rfl dX5_stranger_71 ?_
                refine lv_iload_n hx hb dX5_stranger_74 rfl (lv_at hl 3 rfl) ?_
                refine m_aldC hx hb hK hP ex_2 hx_2 dX5_stranger_75 ?_
                refine lv_iload_n hx hb dX5_stranger_76 rfl (lv_at hl 2 rfl) ?_
                refine lv_iload hx hb dX5_stranger_77 (lv_at hl 5 rfl) ?_
                refine lv_aload_n hx hb dX5_stranger_79 rfl (lv_at hl 1 rfl) ?_
                refine lv_aload hx hb dX5_stranger_80 (lv_at hl 0 rfl) ?_
                refine lv_iload_n hx hb dX5_stranger_82 rfl (lv_at hl 4 rfl) ?_
                refine lv_iload hx hb dX5_stranger_83 (lv_at hl 5 rfl) ?_
                have hFc := mA_free (a := a) hS hA hAc
                refine va_calli (va_runV (As := [.ref (a (10 + 3 * ix_2)), .int p2, .int p3]) (rest := [.int p3, .int p0, .ref (a (9 + 3 * ix_2)), .ref (a 0)]) ⟨hx, hb, hml, hown, hts⟩ (c_X5_opens l dC dI cI cZ cS cC cJ a v H.size ix_2 hx_2 p2 p3 hD hI.self) (cwV 3 hts (gV (fun w h => List.mem_cons_of_mem _ h) kw_t2_118 kw_t2_120 kw_s0_5 kw_t1_1 kw_t2_121) rfl rfl rfl (by decide +kernel) ⟨Nat.le_of_ble_eq_true rfl, Nat.le_of_ble_eq_true rfl⟩) ⟨fun av U g mk q => by obtain ⟨q0, q1, qP, qK, qN⟩ := q; exact ⟨q0, q1, qP, va_K.moved (u := U) (U := U.calling g mk av) (Vm.Alike.refl U.vm) qK, mN_same qN⟩, va_recv hK hP (ci := 5) (q0 := 0) rfl at_0, fun U hU hW => ⟨rfl, by rw [hU], by rw [hU]; exact hP, va_K.moved hW.alike hK, mN_warm hW hN⟩⟩ rfl rfl hl.1 rfl (lv_room (Nat.le_of_ble_eq_true rfl)) dX5_stranger_85 ⟨Nat.le_of_ble_eq_true rfl, Nat.le_of_ble_eq_true rfl⟩) hS (fun q _ h => hFc q h) hFc (fun r_16 _ t H locs ht hvm hw_16 hP _ _ hS => ?_)
                have hP := kt_heap2 ht hP
                clear ht hFc
                have hP : va_P (dC, dI) vwCl (mW cI cZ cS cC cJ a v) H := hP
                have hFc := mA_free (a := a) hS hA hAc
                refine va_calli (va_runV (As := [.ref (a (9 + 3 * ix_2)), .int p0, .int p3, .int r_16]) (rest := []) ⟨hx, hb, hml, hown, hts⟩ (c_X5_noteAsk l dC dI cI cZ cS cC cJ a v H.size ix_2 hx_2 p0 p3 r_16 hD hI.self) (cwV 4 hts (gV (fun w h => List.mem_cons_of_mem _ h) kw_t2_126 kw_t2_128 kw_s0_6 kw_t1_1 kw_t2_129) rfl rfl rfl (by decide +kernel) ⟨Nat.le_of_ble_eq_true rfl, Nat.le_of_ble_eq_true rfl⟩) ⟨fun av U g mk q => by obtain ⟨q0, q1, qP, qK, qN⟩ := q; exact ⟨q0, q1, qP, va_K.moved (u := U) (U := U.calling g mk av) (Vm.Alike.refl U.vm) qK, mN_same qN⟩, va_recv hK hP (ci := 5) (q0 := 0) rfl at_0, fun U hU hW => ⟨rfl, by rw [hU], by rw [hU]; exact hP, va_K.moved hW.alike hK, mN_warm hW hN⟩⟩ rfl rfl hl.1 rfl (lv_room (Nat.le_of_ble_eq_true rfl)) dX5_stranger_88 ⟨Nat.le_of_ble_eq_true rfl, Nat.le_of_ble_eq_true rfl⟩) hS (fun q _ h => hFc q h) hFc (fun r_17 v_17 t H locs ht hvm hw_17 hP _ _ hS => ?_)
                have hP := kt_heap2 ht hP
                clear ht hFc
                have hP : va_P (dC, dI) vwCl (mW cI cZ cS cC cJ a v_17) H := hP
                have hI := hI.trans hw_17
                exact W.iret (v := r_17) hx hb hr (fun t ht hW => ⟨⟨r_17, v_17, rfl, hI, kt_heap ht hP⟩, hS.F ht⟩) hS.2.2 dX5_stranger_91
              · refine lv_iconst (v := (-1)) hx hb dX5_stranger_67 (by decide) ?_
                exact W.iret (v := (-1)) hx hb hr (fun t ht hW => ⟨⟨(-1), v, rfl, hI, kt_heap ht hP⟩, hS.F ht⟩) hS.2.2 dX5_stranger_68
      · refine lv_iconst (v := (-1)) hx hb dX5_stranger_18 (by decide) ?_
        exact W.iret (v := (-1)) hx hb hr (fun t ht hW => ⟨⟨(-1), v, rfl, hI, kt_heap ht hP⟩, hS.F ht⟩) hS.2.2 dX5_stranger_19

set_option maxHeartbeats 4000000 in
set_option maxRecDepth 100000 in
theorem c_X5_told (l : Launch) (dC : Nat → ClassId) (dI : Nat → Nat → Nat) (cI cZ cS cC cJ : ClassId) (a : Nat → Nat) (v : Nat → Nat → Int32) (sz : Nat) (p0 p1 : Int32) (hD : mDD a) (hI : kI v v) : Met l yX5_told (Cond.code yX5_told cX5_told 5 (some .int) :: WW) ({ frames := 3, cells := 0, slots := 0, locals := 90 }) (va_Pc [.ref (a 0), .int p0, .int p1] (fun U => U.heap.size = sz ∧ va_P (dC, dI) vwCl (mW cI cZ cS cC cJ a v) U.heap ∧ va_K (dC, dI) vwCl [(cI, .int), (cZ, .boolean), (cS, .object RX3), (cC, .object RX0), (cJ, .long)] U ∧ mN U)) (va_Qi (fun (r : Int32) (u : Nat → Nat → Int32) => kI v u) (fun (u : Nat → Nat → Int32) (t : State) => va_P (dC, dI) vwCl (mW cI cZ cS cC cJ a u) t.heap) (mA a sz)) 0 0 (mA a sz) := by
  refine Met.ofW (cc := cX5_told) (maxL := 5) (ret := (some .int)) (by decide) rfl ?_
  intro p e s m args below meth c s₁ B hml hv
  obtain ⟨rfl, hsz, hP, hK, hN⟩ := hv
  have hx := B.exec
  have hb := B.bytes
  have hr := B.returns
  have hts := atoms_spec (ws := Cond.code yX5_told cX5_told 5 (some .int) :: WW) B.pre
  have hown : s.vm.findClass RX5 = some m.cls := findClass_of_methodNamed B.named
  have hlocks := B.notSynchronized
  subst hsz
  have hAc : ∀ c, c < 81 → mA a s.heap.size (a c) := fun c h => Or.inl ⟨c, h, rfl⟩
  have hA : ∀ q : Nat, s.heap.size ≤ q → mA a s.heap.size q := fun q h => Or.inr h
  generalize hAe : mA a s.heap.size = A at hAc hA ⊢
  have hS : va_S A s.heap s.heap [] := va_S.rf
  have hl := lv_entry ([.ref (a 0), .int p0, .int p1]) (n := 5) (Nat.le_of_ble_eq_true rfl)
  rw [lg_entry_eq]
  generalize (lg_sl ([.ref (a 0), .int p0, .int p1]) ++ List.replicate (5 - (lg_sl ([.ref (a 0), .int p0, .int p1])).length) Slot.unset).toArray = ls at hl ⊢
  have hl : lv_has ls 5 [(0, .ref (a 0)), (1, .int p0), (2, .int p1)] := hl
  refine lv_aload_n hx hb dX5_told_0 rfl (lv_at hl 0 rfl) ?_
  refine lv_iload_n hx hb dX5_told_1 rfl (lv_at hl 1 rfl) ?_
  have hFc := mA_free (a := a) hS hA hAc
  refine va_calli (va_runV (As := [.int p0]) (rest := []) ⟨hx, hb, hml, hown, hts⟩ (c_X5_isSecret l dC dI cI cZ cS cC cJ a v s.heap.size p0 hD hI.self) (cwV 1 hts (gV (fun w h => List.mem_cons_of_mem _ h) kw_t1_203 kw_t1_205 kw_s0_0 kw_t1_1 kw_t1_206) rfl rfl rfl (by decide +kernel) ⟨Nat.le_of_ble_eq_true rfl, Nat.le_of_ble_eq_true rfl⟩) ⟨fun av U g mk q => by obtain ⟨q0, q1, qP, qK, qN⟩ := q; exact ⟨q0, q1, qP, va_K.moved (u := U) (U := U.calling g mk av) (Vm.Alike.refl U.vm) qK, mN_same qN⟩, va_recv hK hP (ci := 5) (q0 := 0) rfl at_0, fun U hU hW => ⟨rfl, by rw [hU], by rw [hU]; exact hP, va_K.moved hW.alike hK, mN_warm hW hN⟩⟩ rfl rfl hl.1 rfl (lv_room (Nat.le_of_ble_eq_true rfl)) dX5_told_2 ⟨Nat.le_of_ble_eq_true rfl, Nat.le_of_ble_eq_true rfl⟩) hS (fun q _ h => hFc q h) hFc (fun r_1 _ t H locs ht hvm hw_1 hP _ _ hS => ?_)
  have hP := kt_heap2 ht hP
  clear ht hFc
  have hP : va_P (dC, dI) vwCl (mW cI cZ cS cC cJ a v) H := hP
  rcases hw_1 with ⟨hz_2, hns_2⟩ | ⟨hz_2, his_2, ix_2, hx_2, ex_2⟩
  · subst hz_2
    refine lv_if_ne (tgt := 10) hx hb dX5_told_5 (by decide) (fun c_3 => absurd (by decide) c_3) (fun c_3 => ?_)
    refine lv_iconst (v := (-1)) hx hb dX5_told_8 (by decide) ?_
    exact W.iret (v := (-1)) hx hb hr (fun t ht hW => ⟨⟨(-1), v, rfl, hI, kt_heap ht hP⟩, hS.F ht⟩) hS.2.2 dX5_told_9
  · subst hz_2
    refine lv_if_ne (tgt := 10) hx hb dX5_told_5 (by decide) (fun c_4 => ?_) (fun c_4 => absurd c_4 (by decide))
    refine lv_aload_n hx hb dX5_told_10 rfl (lv_at hl 0 rfl) ?_
    refine va_get (D := (dC, dI)) (ci := 5) (v := .ref (a 1)) (C := RX5) (T := TX5) (N := 11) hx hb hts (fun w h => List.mem_cons_of_mem _ (inWX5 w h)) hown hK hP 0 at_0 rfl 0 (by decide) (hts _ (List.mem_cons_of_mem _ kw_t1_157)) (fun _ h9 => h9) rfl dX5_told_11 ?_
    refine lv_iload_n hx hb dX5_told_14 rfl (lv_at hl 1 rfl) ?_
    refine m_aldS hx hb hK hP ex_2 hx_2 dX5_told_15 ?_
    refine lv_astore_n (lv' := [(3, .ref (a (10 + 3 * ix_2))), (0, .ref (a 0)), (1, .int p0), (2, .int p1)]) hx hb dX5_told_16 rfl hl (by decide) rfl (fun ls hl => ?_)
    refine lv_aload_n hx hb dX5_told_17 rfl (lv_at hl 1 rfl) ?_
    refine va_get (D := (dC, dI)) (ci := 5) (v := .ref (a 2)) (C := RX5) (T := TX5) (N := 11) hx hb hts (fun w h => List.mem_cons_of_mem _ (inWX5 w h)) hown hK hP 0 at_0 rfl 1 (by decide) (hts _ (List.mem_cons_of_mem _ kw_t1_158)) (fun _ h9 => h9) rfl dX5_told_18 ?_
    refine lv_iload_n hx hb dX5_told_21 rfl (lv_at hl 2 rfl) ?_
    refine m_aldC hx hb hK hP ex_2 hx_2 dX5_told_22 ?_
    refine lv_astore (lv' := [(4, .ref (a (9 + 3 * ix_2))), (3, .ref (a (10 + 3 * ix_2))), (0, .ref (a 0)), (1, .int p0), (2, .int p1)]) hx hb dX5_told_23 hl (by decide) rfl (fun ls hl => ?_)
    refine lv_iload_n hx hb dX5_told_25 rfl (lv_at hl 4 rfl) ?_
    rcases kt_sw_0_11 p1 with g_5 | g_5 | g_5 | g_5 | g_5 | g_5 | g_5 | g_5 | g_5 | g_5 | g_5 | g_5 | g_5
    · refine lv_tableIn (off := 62) (tgt := 88) hx hb dX5_told_26 (by rw [g_5]; decide) (by rw [g_5]; decide) (by rw [g_5]; decide) (by decide) ?_
      refine lv_aload_n hx hb dX5_told_88 rfl (lv_at hl 1 rfl) ?_
      refine va_get (D := (dC, dI)) (ci := 3) (v := .int (v (10 + 3 * ix_2) 0)) (C := RX3) (T := TX3) (N := 10) hx hb hts (fun w h => List.mem_cons_of_mem _ (inWX3 w h)) hown hK hP (10 + 3 * ix_2) (at_S hx_2) rfl 0 (by decide) (hts _ (List.mem_cons_of_mem _ kw_t1_82)) (fun _ h9 => h9) rfl dX5_told_89 ?_
      refine lv_topi (fun t_6 et_6 => ?_)
      exact W.iret (v := t_6) hx hb hr (fun t ht hW => ⟨⟨t_6, v, rfl, hI, kt_heap ht hP⟩, hS.F ht⟩) hS.2.2 dX5_told_92
    · refine lv_tableIn (off := 67) (tgt := 93) hx hb dX5_told_26 (by rw [g_5]; decide) (by rw [g_5]; decide) (by rw [g_5]; decide) (by decide) ?_
      refine lv_aload_n hx hb dX5_told_93 rfl (lv_at hl 1 rfl) ?_
      refine va_get (D := (dC, dI)) (ci := 3) (v := .int (v (10 + 3 * ix_2) 1)) (C := RX3) (T := TX3) (N := 10) hx hb hts (fun w h => List.mem_cons_of_mem _ (inWX3 w h)) hown hK hP (10 + 3 * ix_2) (at_S hx_2) rfl 1 (by decide) (hts _ (List.mem_cons_of_mem _ kw_t1_85)) (fun _ h9 => h9) rfl dX5_told_94 ?_
      refine lv_topi (fun t_7 et_7 => ?_)
      exact W.iret (v := t_7) hx hb hr (fun t ht hW => ⟨⟨t_7, v, rfl, hI, kt_heap ht hP⟩, hS.F ht⟩) hS.2.2 dX5_told_97
    · refine lv_tableIn (off := 72) (tgt := 98) hx hb dX5_told_26 (by rw [g_5]; decide) (by rw [g_5]; decide) (by rw [g_5]; decide) (by decide) ?_
      refine lv_aload_n hx hb dX5_told_98 rfl (lv_at hl 1 rfl) ?_
      refine va_get (D := (dC, dI)) (ci := 3) (v := .int (v (10 + 3 * ix_2) 2)) (C := RX3) (T := TX3) (N := 10) hx hb hts (fun w h => List.mem_cons_of_mem _ (inWX3 w h)) hown hK hP (10 + 3 * ix_2) (at_S hx_2) rfl 2 (by decide) (hts _ (List.mem_cons_of_mem _ kw_t1_88)) (fun _ h9 => h9) rfl dX5_told_99 ?_
      refine lv_topi (fun t_8 et_8 => ?_)
      exact W.iret (v := t_8) hx hb hr (fun t ht hW => ⟨⟨t_8, v, rfl, hI, kt_heap ht hP⟩, hS.F ht⟩) hS.2.2 dX5_told_102
    · refine lv_tableIn (off := 77) (tgt := 103) hx hb dX5_told_26 (by rw [g_5]; decide) (by rw [g_5]; decide) (by rw [g_5]; decide) (by decide) ?_
      refine lv_aload_n hx hb dX5_told_103 rfl (lv_at hl 1 rfl) ?_
      refine va_get (D := (dC, dI)) (ci := 3) (v := .int (v (10 + 3 * ix_2) 3)) (C := RX3) (T := TX3) (N := 10) hx hb hts (fun w h => List.mem_cons_of_mem _ (inWX3 w h)) hown hK hP (10 + 3 * ix_2) (at_S hx_2) rfl 3 (by decide) (hts _ (List.mem_cons_of_mem _ kw_t1_90)) (fun _ h9 => h9) rfl dX5_told_104 ?_
      refine lv_topi (fun t_9 et_9 => ?_)
      exact W.iret (v := t_9) hx hb hr (fun t ht hW => ⟨⟨t_9, v, rfl, hI, kt_heap ht hP⟩, hS.F ht⟩) hS.2.2 dX5_told_107
    · refine lv_tableIn (off := 82) (tgt := 108) hx hb dX5_told_26 (by rw [g_5]; decide) (by rw [g_5]; decide) (by rw [g_5]; decide) (by decide) ?_
      refine lv_aload_n hx hb dX5_told_108 rfl (lv_at hl 1 rfl) ?_
      refine va_get (D := (dC, dI)) (ci := 3) (v := .int (v (10 + 3 * ix_2) 4)) (C := RX3) (T := TX3) (N := 10) hx hb hts (fun w h => List.mem_cons_of_mem _ (inWX3 w h)) hown hK hP (10 + 3 * ix_2) (at_S hx_2) rfl 4 (by decide) (hts _ (List.mem_cons_of_mem _ kw_t1_92)) (fun _ h9 => h9) rfl dX5_told_109 ?_
      refine lv_topi (fun t_10 et_10 => ?_)
      exact W.iret (v := t_10) hx hb hr (fun t ht hW => ⟨⟨t_10, v, rfl, hI, kt_heap ht hP⟩, hS.F ht⟩) hS.2.2 dX5_told_112
    · refine lv_tableIn (off := 87) (tgt := 113) hx hb dX5_told_26 (by rw [g_5]; decide) (by rw [g_5]; decide) (by rw [g_5]; decide) (by decide) ?_
      refine lv_aload hx hb dX5_told_113 (lv_at hl 0 rfl) ?_
      refine va_get (D := (dC, dI)) (ci := 0) (v := .int (v (9 + 3 * ix_2) 4)) (C := RX0) (T := TX0) (N := 9) hx hb hts (fun w h => List.mem_cons_of_mem _ (inWX0 w h)) hown hK hP (9 + 3 * ix_2) (at_C hx_2) rfl 4 (by decide) (hts _ (List.mem_cons_of_mem _ kw_t1_131)) (fun _ h9 => h9) rfl dX5_told_115 ?_
      refine lv_topi (fun t_11 et_11 => ?_)
      exact W.iret (v := t_11) hx hb hr (fun t ht hW => ⟨⟨t_11, v, rfl, hI, kt_heap ht hP⟩, hS.F ht⟩) hS.2.2 dX5_told_118
    · refine lv_tableIn (off := 93) (tgt := 119) hx hb dX5_told_26 (by rw [g_5]; decide) (by rw [g_5]; decide) (by rw [g_5]; decide) (by decide) ?_
      refine lv_aload_n hx hb dX5_told_119 rfl (lv_at hl 1 rfl) ?_
      refine va_get (D := (dC, dI)) (ci := 3) (v := .int (v (10 + 3 * ix_2) 5)) (C := RX3) (T := TX3) (N := 10) hx hb hts (fun w h => List.mem_cons_of_mem _ (inWX3 w h)) hown hK hP (10 + 3 * ix_2) (at_S hx_2) rfl 5 (by decide) (hts _ (List.mem_cons_of_mem _ kw_t1_95)) (fun _ h9 => h9) rfl dX5_told_120 ?_
      refine lv_topi (fun t_12 et_12 => ?_)
      exact W.iret (v := t_12) hx hb hr (fun t ht hW => ⟨⟨t_12, v, rfl, hI, kt_heap ht hP⟩, hS.F ht⟩) hS.2.2 dX5_told_123
    · refine lv_tableIn (off := 98) (tgt := 124) hx hb dX5_told_26 (by rw [g_5]; decide) (by rw [g_5]; decide) (by rw [g_5]; decide) (by decide) ?_
      refine lv_aload_n hx hb dX5_told_124 rfl (lv_at hl 2 rfl) ?_
      refine va_get (D := (dC, dI)) (ci := 5) (v := .int (v 0 6)) (C := RX5) (T := TX5) (N := 11) hx hb hts (fun w h => List.mem_cons_of_mem _ (inWX5 w h)) hown hK hP 0 at_0 rfl 6 (by decide) (hts _ (List.mem_cons_of_mem _ kw_t1_163)) (fun _ h9 => h9) rfl dX5_told_125 ?_
      refine lv_topi (fun t_13 et_13 => ?_)
      refine lv_aload_n hx hb dX5_told_128 rfl (lv_at hl 1 rfl) ?_
      have hFc := mA_free (a := a) hS hA hAc
      refine va_calli (va_runV (As := []) (rest := [.int t_13]) ⟨hx, hb, hml, hown, hts⟩ (c_X3_oldestGoodMade l dC dI cI cZ cS cC cJ a v H.size ix_2 hx_2 hD hI.self) (cwV 0 hts (gV (fun w h => List.mem_cons_of_mem _ h) kw_t2_142 kw_t2_143 kw_t2_144 kw_t1_6 kw_t2_145) rfl rfl rfl (by decide +kernel) ⟨Nat.le_of_ble_eq_true rfl, Nat.le_of_ble_eq_true rfl⟩) ⟨fun av U g mk q => by obtain ⟨q0, q1, qP, qK, qN⟩ := q; exact ⟨q0, q1, qP, va_K.moved (u := U) (U := U.calling g mk av) (Vm.Alike.refl U.vm) qK, mN_same qN⟩, va_recv hK hP (ci := 3) (q0 := (10 + 3 * ix_2)) rfl (at_S hx_2), fun U hU hW => ⟨rfl, by rw [hU], by rw [hU]; exact hP, va_K.moved hW.alike hK, mN_warm hW hN⟩⟩ rfl rfl hl.1 rfl (lv_room (Nat.le_of_ble_eq_true rfl)) dX5_told_129 ⟨Nat.le_of_ble_eq_true rfl, Nat.le_of_ble_eq_true rfl⟩) hS (fun q _ h => hFc q h) hFc (fun r_14 _ t H locs ht hvm hw_14 hP _ _ hS => ?_)
      have hP := kt_heap2 ht hP
      clear ht hFc
      have hP : va_P (dC, dI) vwCl (mW cI cZ cS cC cJ a v) H := hP
      refine lv_isub hx hb dX5_told_132 ?_
      refine lv_topi (fun t_15 et_15 => ?_)
      exact W.iret (v := t_15) hx hb hr (fun t ht hW => ⟨⟨t_15, v, rfl, hI, kt_heap ht hP⟩, hS.F ht⟩) hS.2.2 dX5_told_133
    · refine lv_tableIn (off := 108) (tgt := 134) hx hb dX5_told_26 (by rw [g_5]; decide) (by rw [g_5]; decide) (by rw [g_5]; decide) (by decide) ?_
      refine lv_aload hx hb dX5_told_134 (lv_at hl 0 rfl) ?_
      refine va_get (D := (dC, dI)) (ci := 0) (v := .int (v (9 + 3 * ix_2) 6)) (C := RX0) (T := TX0) (N := 9) hx hb hts (fun w h => List.mem_cons_of_mem _ (inWX0 w h)) hown hK hP (9 + 3 * ix_2) (at_C hx_2) rfl 6 (by decide) (hts _ (List.mem_cons_of_mem _ kw_t1_135)) (fun _ h9 => h9) rfl dX5_told_136 ?_
      refine lv_topi (fun t_16 et_16 => ?_)
      exact W.iret (v := t_16) hx hb hr (fun t ht hW => ⟨⟨t_16, v, rfl, hI, kt_heap ht hP⟩, hS.F ht⟩) hS.2.2 dX5_told_139
    · refine lv_tableIn (off := 114) (tgt := 140) hx hb dX5_told_26 (by rw [g_5]; decide) (by rw [g_5]; decide) (by rw [g_5]; decide) (by decide) ?_
      refine lv_aload_n hx hb dX5_told_140 rfl (lv_at hl 1 rfl) ?_
      have hFc := mA_free (a := a) hS hA hAc
      refine va_calli (va_runV (As := []) (rest := []) ⟨hx, hb, hml, hown, hts⟩ (c_X3_lockedOut l dC dI cI cZ cS cC cJ a v H.size ix_2 hx_2 hD hI.self) (cwV 0 hts (gV (fun w h => List.mem_cons_of_mem _ h) kw_t2_146 kw_t2_147 kw_t2_148 kw_t1_6 kw_t2_149) rfl rfl rfl (by decide +kernel) ⟨Nat.le_of_ble_eq_true rfl, Nat.le_of_ble_eq_true rfl⟩) ⟨fun av U g mk q => by obtain ⟨q0, q1, qP, qK, qN⟩ := q; exact ⟨q0, q1, qP, va_K.moved (u := U) (U := U.calling g mk av) (Vm.Alike.refl U.vm) qK, mN_same qN⟩, va_recv hK hP (ci := 3) (q0 := (10 + 3 * ix_2)) rfl (at_S hx_2), fun U hU hW => ⟨rfl, by rw [hU], by rw [hU]; exact hP, va_K.moved hW.alike hK, mN_warm hW hN⟩⟩ rfl rfl hl.1 rfl (lv_room (Nat.le_of_ble_eq_true rfl)) dX5_told_141 ⟨Nat.le_of_ble_eq_true rfl, Nat.le_of_ble_eq_true rfl⟩) hS (fun q _ h => hFc q h) hFc (fun r_17 _ t H locs ht hvm hw_17 hP _ _ hS => ?_)
      have hP := kt_heap2 ht hP
      clear ht hFc
      have hP : va_P (dC, dI) vwCl (mW cI cZ cS cC cJ a v) H := hP
      exact W.iret (v := r_17) hx hb hr (fun t ht hW => ⟨⟨r_17, v, rfl, hI, kt_heap ht hP⟩, hS.F ht⟩) hS.2.2 dX5_told_144
    · refine lv_tableIn (off := 119) (tgt := 145) hx hb dX5_told_26 (by rw [g_5]; decide) (by rw [g_5]; decide) (by rw [g_5]; decide) (by decide) ?_
      refine lv_aload hx hb dX5_told_145 (lv_at hl 0 rfl) ?_
      have hFc := mA_free (a := a) hS hA hAc
      refine va_calli (va_runV (As := []) (rest := []) ⟨hx, hb, hml, hown, hts⟩ (c_X0_letterCount l dC dI cI cZ cS cC cJ a v H.size ix_2 hx_2 hD hI.self) (cwV 0 hts (gV (fun w h => List.mem_cons_of_mem _ h) kw_t2_150 kw_t2_151 kw_t2_152 kw_t1_5 kw_t2_153) rfl rfl rfl (by decide +kernel) ⟨Nat.le_of_ble_eq_true rfl, Nat.le_of_ble_eq_true rfl⟩) ⟨fun av U g mk q => by obtain ⟨q0, q1, qP, qK, qN⟩ := q; exact ⟨q0, q1, qP, va_K.moved (u := U) (U := U.calling g mk av) (Vm.Alike.refl U.vm) qK, mN_same qN⟩, va_recv hK hP (ci := 0) (q0 := (9 + 3 * ix_2)) rfl (at_C hx_2), fun U hU hW => ⟨rfl, by rw [hU], by rw [hU]; exact hP, va_K.moved hW.alike hK, mN_warm hW hN⟩⟩ rfl rfl hl.1 rfl (lv_room (Nat.le_of_ble_eq_true rfl)) dX5_told_147 ⟨Nat.le_of_ble_eq_true rfl, Nat.le_of_ble_eq_true rfl⟩) hS (fun q _ h => hFc q h) hFc (fun r_18 _ t H locs ht hvm hw_18 hP _ _ hS => ?_)
      have hP := kt_heap2 ht hP
      clear ht hFc
      have hP : va_P (dC, dI) vwCl (mW cI cZ cS cC cJ a v) H := hP
      exact W.iret (v := r_18) hx hb hr (fun t ht hW => ⟨⟨r_18, v, rfl, hI, kt_heap ht hP⟩, hS.F ht⟩) hS.2.2 dX5_told_150
    · refine lv_tableIn (off := 125) (tgt := 151) hx hb dX5_told_26 (by rw [g_5]; decide) (by rw [g_5]; decide) (by rw [g_5]; decide) (by decide) ?_
      refine lv_aload hx hb dX5_told_151 (lv_at hl 0 rfl) ?_
      have hFc := mA_free (a := a) hS hA hAc
      refine va_calli (va_runV (As := []) (rest := []) ⟨hx, hb, hml, hown, hts⟩ (c_X0_goesOn l dC dI cI cZ cS cC cJ a v H.size ix_2 hx_2 hD hI.self) (cwV 0 hts (gV (fun w h => List.mem_cons_of_mem _ h) kw_t2_6 kw_t2_7 kw_t2_8 kw_t1_5 kw_t2_9) rfl rfl rfl (by decide +kernel) ⟨Nat.le_of_ble_eq_true rfl, Nat.le_of_ble_eq_true rfl⟩) ⟨fun av U g mk q => by obtain ⟨q0, q1, qP, qK, qN⟩ := q; exact ⟨q0, q1, qP, va_K.moved (u := U) (U := U.calling g mk av) (Vm.Alike.refl U.vm) qK, mN_same qN⟩, va_recv hK hP (ci := 0) (q0 := (9 + 3 * ix_2)) rfl (at_C hx_2), fun U hU hW => ⟨rfl, by rw [hU], by rw [hU]; exact hP, va_K.moved hW.alike hK, mN_warm hW hN⟩⟩ rfl rfl hl.1 rfl (lv_room (Nat.le_of_ble_eq_true rfl)) dX5_told_153 ⟨Nat.le_of_ble_eq_true rfl, Nat.le_of_ble_eq_true rfl⟩) hS (fun q _ h => hFc q h) hFc (fun r_19 _ t H locs ht hvm hw_19 hP _ _ hS => ?_)
      have hP := kt_heap2 ht hP
      clear ht hFc
      have hP : va_P (dC, dI) vwCl (mW cI cZ cS cC cJ a v) H := hP
      refine lv_if_eq (tgt := 167) hx hb dX5_told_156 (by decide) (fun c_20 => ?_) (fun c_20 => ?_)
      · refine lv_iconst (v := (-1)) hx hb dX5_told_167 (by decide) ?_
        exact W.iret (v := (-1)) hx hb hr (fun t ht hW => ⟨⟨(-1), v, rfl, hI, kt_heap ht hP⟩, hS.F ht⟩) hS.2.2 dX5_told_168
      · refine lv_aload hx hb dX5_told_159 (lv_at hl 0 rfl) ?_
        refine va_get (D := (dC, dI)) (ci := 0) (v := .int (v (9 + 3 * ix_2) 5)) (C := RX0) (T := TX0) (N := 9) hx hb hts (fun w h => List.mem_cons_of_mem _ (inWX0 w h)) hown hK hP (9 + 3 * ix_2) (at_C hx_2) rfl 5 (by decide) (hts _ (List.mem_cons_of_mem _ kw_t1_133)) (fun _ h9 => h9) rfl dX5_told_161 ?_
        refine lv_topi (fun t_21 et_21 => ?_)
        refine lv_goto (tgt := 168) hx hb dX5_told_164 (by decide) ?_
        exact W.iret (v := t_21) hx hb hr (fun t ht hW => ⟨⟨t_21, v, rfl, hI, kt_heap ht hP⟩, hS.F ht⟩) hS.2.2 dX5_told_168
    · refine lv_tableOut (tgt := 169) hx hb dX5_told_26 g_5 (by decide) ?_
      refine lv_iconst (v := (-1)) hx hb dX5_told_169 (by decide) ?_
      exact W.iret (v := (-1)) hx hb hr (fun t ht hW => ⟨⟨(-1), v, rfl, hI, kt_heap ht hP⟩, hS.F ht⟩) hS.2.2 dX5_told_170

set_option maxHeartbeats 4000000 in
set_option maxRecDepth 100000 in
theorem c_X5_has (l : Launch) (dC : Nat → ClassId) (dI : Nat → Nat → Nat) (cI cZ cS cC cJ : ClassId) (a : Nat → Nat) (v : Nat → Nat → Int32) (sz : Nat) (p0 p1 : Int32) (hD : mDD a) (hI : kI v v) : Met l yX5_has (Cond.code yX5_has cX5_has 3 (some .int) :: WW) ({ frames := 3, cells := 0, slots := 0, locals := 90 }) (va_Pc [.ref (a 0), .int p0, .int p1] (fun U => U.heap.size = sz ∧ va_P (dC, dI) vwCl (mW cI cZ cS cC cJ a v) U.heap ∧ va_K (dC, dI) vwCl [(cI, .int), (cZ, .boolean), (cS, .object RX3), (cC, .object RX0), (cJ, .long)] U ∧ mN U)) (va_Qi (fun (r : Int32) (u : Nat → Nat → Int32) => kI v u) (fun (u : Nat → Nat → Int32) (t : State) => va_P (dC, dI) vwCl (mW cI cZ cS cC cJ a u) t.heap) (mA a sz)) 0 0 (mA a sz) := by
  refine Met.ofW (cc := cX5_has) (maxL := 3) (ret := (some .int)) (by decide) rfl ?_
  intro p e s m args below meth c s₁ B hml hv
  obtain ⟨rfl, hsz, hP, hK, hN⟩ := hv
  have hx := B.exec
  have hb := B.bytes
  have hr := B.returns
  have hts := atoms_spec (ws := Cond.code yX5_has cX5_has 3 (some .int) :: WW) B.pre
  have hown : s.vm.findClass RX5 = some m.cls := findClass_of_methodNamed B.named
  have hlocks := B.notSynchronized
  subst hsz
  have hAc : ∀ c, c < 81 → mA a s.heap.size (a c) := fun c h => Or.inl ⟨c, h, rfl⟩
  have hA : ∀ q : Nat, s.heap.size ≤ q → mA a s.heap.size q := fun q h => Or.inr h
  generalize hAe : mA a s.heap.size = A at hAc hA ⊢
  have hS : va_S A s.heap s.heap [] := va_S.rf
  have hl := lv_entry ([.ref (a 0), .int p0, .int p1]) (n := 3) (Nat.le_of_ble_eq_true rfl)
  rw [lg_entry_eq]
  generalize (lg_sl ([.ref (a 0), .int p0, .int p1]) ++ List.replicate (3 - (lg_sl ([.ref (a 0), .int p0, .int p1])).length) Slot.unset).toArray = ls at hl ⊢
  have hl : lv_has ls 3 [(0, .ref (a 0)), (1, .int p0), (2, .int p1)] := hl
  refine lv_aload_n hx hb dX5_has_0 rfl (lv_at hl 0 rfl) ?_
  refine lv_iload_n hx hb dX5_has_1 rfl (lv_at hl 2 rfl) ?_
  have hFc := mA_free (a := a) hS hA hAc
  refine va_calli (va_runV (As := [.int p1]) (rest := []) ⟨hx, hb, hml, hown, hts⟩ (c_X5_isSecret l dC dI cI cZ cS cC cJ a v s.heap.size p1 hD hI.self) (cwV 1 hts (gV (fun w h => List.mem_cons_of_mem _ h) kw_t1_203 kw_t1_205 kw_s0_0 kw_t1_1 kw_t1_206) rfl rfl rfl (by decide +kernel) ⟨Nat.le_of_ble_eq_true rfl, Nat.le_of_ble_eq_true rfl⟩) ⟨fun av U g mk q => by obtain ⟨q0, q1, qP, qK, qN⟩ := q; exact ⟨q0, q1, qP, va_K.moved (u := U) (U := U.calling g mk av) (Vm.Alike.refl U.vm) qK, mN_same qN⟩, va_recv hK hP (ci := 5) (q0 := 0) rfl at_0, fun U hU hW => ⟨rfl, by rw [hU], by rw [hU]; exact hP, va_K.moved hW.alike hK, mN_warm hW hN⟩⟩ rfl rfl hl.1 rfl (lv_room (Nat.le_of_ble_eq_true rfl)) dX5_has_2 ⟨Nat.le_of_ble_eq_true rfl, Nat.le_of_ble_eq_true rfl⟩) hS (fun q _ h => hFc q h) hFc (fun r_1 _ t H locs ht hvm hw_1 hP _ _ hS => ?_)
  have hP := kt_heap2 ht hP
  clear ht hFc
  have hP : va_P (dC, dI) vwCl (mW cI cZ cS cC cJ a v) H := hP
  rcases hw_1 with ⟨hz_2, hns_2⟩ | ⟨hz_2, his_2, ix_2, hx_2, ex_2⟩
  · subst hz_2
    refine lv_if_eq (tgt := 24) hx hb dX5_has_5 (by decide) (fun c_3 => ?_) (fun c_3 => absurd (by decide) c_3)
    refine lv_iconst (v := (-1)) hx hb dX5_has_24 (by decide) ?_
    exact W.iret (v := (-1)) hx hb hr (fun t ht hW => ⟨⟨(-1), v, rfl, hI, kt_heap ht hP⟩, hS.F ht⟩) hS.2.2 dX5_has_25
  · subst hz_2
    refine lv_if_eq (tgt := 24) hx hb dX5_has_5 (by decide) (fun c_4 => absurd c_4 (by decide)) (fun c_4 => ?_)
    refine lv_aload_n hx hb dX5_has_8 rfl (lv_at hl 0 rfl) ?_
    refine va_get (D := (dC, dI)) (ci := 5) (v := .ref (a 1)) (C := RX5) (T := TX5) (N := 11) hx hb hts (fun w h => List.mem_cons_of_mem _ (inWX5 w h)) hown hK hP 0 at_0 rfl 0 (by decide) (hts _ (List.mem_cons_of_mem _ kw_t1_157)) (fun _ h9 => h9) rfl dX5_has_9 ?_
    refine lv_iload_n hx hb dX5_has_12 rfl (lv_at hl 2 rfl) ?_
    refine m_aldS hx hb hK hP ex_2 hx_2 dX5_has_13 ?_
    refine va_get (D := (dC, dI)) (ci := 3) (v := .int (v (10 + 3 * ix_2) 1)) (C := RX3) (T := TX3) (N := 10) hx hb hts (fun w h => List.mem_cons_of_mem _ (inWX3 w h)) hown hK hP (10 + 3 * ix_2) (at_S hx_2) rfl 1 (by decide) (hts _ (List.mem_cons_of_mem _ kw_t1_85)) (fun _ h9 => h9) rfl dX5_has_14 ?_
    refine lv_topi (fun t_5 et_5 => ?_)
    refine lv_iload_n hx hb dX5_has_17 rfl (lv_at hl 1 rfl) ?_
    have hFc := mA_free (a := a) hS hA hAc
    refine va_calli (va_runS (As := [.int t_5, .int p0]) (rest := []) ⟨hx, hb, hml, hown, hts⟩ (c_X5_isIn l dC dI cI cZ cS cC cJ a v H.size t_5 p0 hD hI.self) (va_cwS 2 hts (gS (fun w h => List.mem_cons_of_mem _ h) kw_t2_112 kw_t1_212 kw_t1_1 kw_t1_213) rfl rfl rfl (by decide +kernel) ⟨Nat.le_of_ble_eq_true rfl, Nat.le_of_ble_eq_true rfl⟩) ⟨fun av U g mk q => by obtain ⟨q0, q1, qP, qK, qN⟩ := q; exact ⟨q0, q1, qP, va_K.moved (u := U) (U := U.calling g mk av) (Vm.Alike.refl U.vm) qK, mN_same qN⟩, fun U hU hW => ⟨rfl, by rw [hU], by rw [hU]; exact hP, va_K.moved hW.alike hK, mN_warm hW hN⟩⟩ rfl rfl hl.1 rfl (lv_room (Nat.le_of_ble_eq_true rfl)) dX5_has_18 ⟨Nat.le_of_ble_eq_true rfl, Nat.le_of_ble_eq_true rfl⟩) hS (fun q _ h => hFc q h) hFc (fun r_6 _ t H locs ht hvm hw_6 hP _ _ hS => ?_)
    have hP := kt_heap2 ht hP
    clear ht hFc
    have hP : va_P (dC, dI) vwCl (mW cI cZ cS cC cJ a v) H := hP
    refine lv_if_ne (tgt := 26) hx hb dX5_has_21 (by decide) (fun c_7 => ?_) (fun c_7 => ?_)
    · refine lv_aload_n hx hb dX5_has_26 rfl (lv_at hl 0 rfl) ?_
      refine va_get (D := (dC, dI)) (ci := 5) (v := .ref (a 1)) (C := RX5) (T := TX5) (N := 11) hx hb hts (fun w h => List.mem_cons_of_mem _ (inWX5 w h)) hown hK hP 0 at_0 rfl 0 (by decide) (hts _ (List.mem_cons_of_mem _ kw_t1_157)) (fun _ h9 => h9) rfl dX5_has_27 ?_
      refine lv_iload_n hx hb dX5_has_30 rfl (lv_at hl 2 rfl) ?_
      refine m_aldS hx hb hK hP ex_2 hx_2 dX5_has_31 ?_
      refine lv_iload_n hx hb dX5_has_32 rfl (lv_at hl 1 rfl) ?_
      have hFc := mA_free (a := a) hS hA hAc
      refine va_calli (va_runV (As := [.int p0]) (rest := []) ⟨hx, hb, hml, hown, hts⟩ (c_X3_versionOf l dC dI cI cZ cS cC cJ a v H.size ix_2 hx_2 p0 hD hI.self) (cwV 1 hts (gV (fun w h => List.mem_cons_of_mem _ h) kw_t2_113 kw_t2_114 kw_t2_115 kw_t1_6 kw_t2_116) rfl rfl rfl (by decide +kernel) ⟨Nat.le_of_ble_eq_true rfl, Nat.le_of_ble_eq_true rfl⟩) ⟨fun av U g mk q => by obtain ⟨q0, q1, qP, qK, qN⟩ := q; exact ⟨q0, q1, qP, va_K.moved (u := U) (U := U.calling g mk av) (Vm.Alike.refl U.vm) qK, mN_same qN⟩, va_recv hK hP (ci := 3) (q0 := (10 + 3 * ix_2)) rfl (at_S hx_2), fun U hU hW => ⟨rfl, by rw [hU], by rw [hU]; exact hP, va_K.moved hW.alike hK, mN_warm hW hN⟩⟩ rfl rfl hl.1 rfl (lv_room (Nat.le_of_ble_eq_true rfl)) dX5_has_33 ⟨Nat.le_of_ble_eq_true rfl, Nat.le_of_ble_eq_true rfl⟩) hS (fun q _ h => hFc q h) hFc (fun r_8 _ t H locs ht hvm hw_8 hP _ _ hS => ?_)
      have hP := kt_heap2 ht hP
      clear ht hFc
      have hP : va_P (dC, dI) vwCl (mW cI cZ cS cC cJ a v) H := hP
      exact W.iret (v := r_8) hx hb hr (fun t ht hW => ⟨⟨r_8, v, rfl, hI, kt_heap ht hP⟩, hS.F ht⟩) hS.2.2 dX5_has_36
    · refine lv_iconst (v := (-1)) hx hb dX5_has_24 (by decide) ?_
      exact W.iret (v := (-1)) hx hb hr (fun t ht hW => ⟨⟨(-1), v, rfl, hI, kt_heap ht hP⟩, hS.F ht⟩) hS.2.2 dX5_has_25

set_option maxHeartbeats 4000000 in
set_option maxRecDepth 100000 in
theorem c_X5_good (l : Launch) (dC : Nat → ClassId) (dI : Nat → Nat → Nat) (cI cZ cS cC cJ : ClassId) (a : Nat → Nat) (v : Nat → Nat → Int32) (sz : Nat) (p0 p1 p2 : Int32) (hD : mDD a) (hI : kI v v) : Met l yX5_good (Cond.code yX5_good cX5_good 4 (some .int) :: WW) ({ frames := 3, cells := 0, slots := 0, locals := 90 }) (va_Pc [.ref (a 0), .int p0, .int p1, .int p2] (fun U => U.heap.size = sz ∧ va_P (dC, dI) vwCl (mW cI cZ cS cC cJ a v) U.heap ∧ va_K (dC, dI) vwCl [(cI, .int), (cZ, .boolean), (cS, .object RX3), (cC, .object RX0), (cJ, .long)] U ∧ mN U)) (va_Qi (fun (r : Int32) (u : Nat → Nat → Int32) => kI v u) (fun (u : Nat → Nat → Int32) (t : State) => va_P (dC, dI) vwCl (mW cI cZ cS cC cJ a u) t.heap) (mA a sz)) 0 0 (mA a sz) := by
  refine Met.ofW (cc := cX5_good) (maxL := 4) (ret := (some .int)) (by decide) rfl ?_
  intro p e s m args below meth c s₁ B hml hv
  obtain ⟨rfl, hsz, hP, hK, hN⟩ := hv
  have hx := B.exec
  have hb := B.bytes
  have hr := B.returns
  have hts := atoms_spec (ws := Cond.code yX5_good cX5_good 4 (some .int) :: WW) B.pre
  have hown : s.vm.findClass RX5 = some m.cls := findClass_of_methodNamed B.named
  have hlocks := B.notSynchronized
  subst hsz
  have hAc : ∀ c, c < 81 → mA a s.heap.size (a c) := fun c h => Or.inl ⟨c, h, rfl⟩
  have hA : ∀ q : Nat, s.heap.size ≤ q → mA a s.heap.size q := fun q h => Or.inr h
  generalize hAe : mA a s.heap.size = A at hAc hA ⊢
  have hS : va_S A s.heap s.heap [] := va_S.rf
  have hl := lv_entry ([.ref (a 0), .int p0, .int p1, .int p2]) (n := 4) (Nat.le_of_ble_eq_true rfl)
  rw [lg_entry_eq]
  generalize (lg_sl ([.ref (a 0), .int p0, .int p1, .int p2]) ++ List.replicate (4 - (lg_sl ([.ref (a 0), .int p0, .int p1, .int p2])).length) Slot.unset).toArray = ls at hl ⊢
  have hl : lv_has ls 4 [(0, .ref (a 0)), (1, .int p0), (2, .int p1), (3, .int p2)] := hl
  refine lv_aload_n hx hb dX5_good_0 rfl (lv_at hl 0 rfl) ?_
  refine lv_iload_n hx hb dX5_good_1 rfl (lv_at hl 2 rfl) ?_
  have hFc := mA_free (a := a) hS hA hAc
  refine va_calli (va_runV (As := [.int p1]) (rest := []) ⟨hx, hb, hml, hown, hts⟩ (c_X5_isSecret l dC dI cI cZ cS cC cJ a v s.heap.size p1 hD hI.self) (cwV 1 hts (gV (fun w h => List.mem_cons_of_mem _ h) kw_t1_203 kw_t1_205 kw_s0_0 kw_t1_1 kw_t1_206) rfl rfl rfl (by decide +kernel) ⟨Nat.le_of_ble_eq_true rfl, Nat.le_of_ble_eq_true rfl⟩) ⟨fun av U g mk q => by obtain ⟨q0, q1, qP, qK, qN⟩ := q; exact ⟨q0, q1, qP, va_K.moved (u := U) (U := U.calling g mk av) (Vm.Alike.refl U.vm) qK, mN_same qN⟩, va_recv hK hP (ci := 5) (q0 := 0) rfl at_0, fun U hU hW => ⟨rfl, by rw [hU], by rw [hU]; exact hP, va_K.moved hW.alike hK, mN_warm hW hN⟩⟩ rfl rfl hl.1 rfl (lv_room (Nat.le_of_ble_eq_true rfl)) dX5_good_2 ⟨Nat.le_of_ble_eq_true rfl, Nat.le_of_ble_eq_true rfl⟩) hS (fun q _ h => hFc q h) hFc (fun r_1 _ t H locs ht hvm hw_1 hP _ _ hS => ?_)
  have hP := kt_heap2 ht hP
  clear ht hFc
  have hP : va_P (dC, dI) vwCl (mW cI cZ cS cC cJ a v) H := hP
  rcases hw_1 with ⟨hz_2, hns_2⟩ | ⟨hz_2, his_2, ix_2, hx_2, ex_2⟩
  · subst hz_2
    refine lv_if_eq (tgt := 24) hx hb dX5_good_5 (by decide) (fun c_3 => ?_) (fun c_3 => absurd (by decide) c_3)
    refine lv_iconst (v := (-1)) hx hb dX5_good_24 (by decide) ?_
    exact W.iret (v := (-1)) hx hb hr (fun t ht hW => ⟨⟨(-1), v, rfl, hI, kt_heap ht hP⟩, hS.F ht⟩) hS.2.2 dX5_good_25
  · subst hz_2
    refine lv_if_eq (tgt := 24) hx hb dX5_good_5 (by decide) (fun c_4 => absurd c_4 (by decide)) (fun c_4 => ?_)
    refine lv_aload_n hx hb dX5_good_8 rfl (lv_at hl 0 rfl) ?_
    refine va_get (D := (dC, dI)) (ci := 5) (v := .ref (a 1)) (C := RX5) (T := TX5) (N := 11) hx hb hts (fun w h => List.mem_cons_of_mem _ (inWX5 w h)) hown hK hP 0 at_0 rfl 0 (by decide) (hts _ (List.mem_cons_of_mem _ kw_t1_157)) (fun _ h9 => h9) rfl dX5_good_9 ?_
    refine lv_iload_n hx hb dX5_good_12 rfl (lv_at hl 2 rfl) ?_
    refine m_aldS hx hb hK hP ex_2 hx_2 dX5_good_13 ?_
    refine va_get (D := (dC, dI)) (ci := 3) (v := .int (v (10 + 3 * ix_2) 2)) (C := RX3) (T := TX3) (N := 10) hx hb hts (fun w h => List.mem_cons_of_mem _ (inWX3 w h)) hown hK hP (10 + 3 * ix_2) (at_S hx_2) rfl 2 (by decide) (hts _ (List.mem_cons_of_mem _ kw_t1_88)) (fun _ h9 => h9) rfl dX5_good_14 ?_
    refine lv_topi (fun t_5 et_5 => ?_)
    refine lv_iload_n hx hb dX5_good_17 rfl (lv_at hl 1 rfl) ?_
    have hFc := mA_free (a := a) hS hA hAc
    refine va_calli (va_runS (As := [.int t_5, .int p0]) (rest := []) ⟨hx, hb, hml, hown, hts⟩ (c_X5_isIn l dC dI cI cZ cS cC cJ a v H.size t_5 p0 hD hI.self) (va_cwS 2 hts (gS (fun w h => List.mem_cons_of_mem _ h) kw_t2_112 kw_t1_212 kw_t1_1 kw_t1_213) rfl rfl rfl (by decide +kernel) ⟨Nat.le_of_ble_eq_true rfl, Nat.le_of_ble_eq_true rfl⟩) ⟨fun av U g mk q => by obtain ⟨q0, q1, qP, qK, qN⟩ := q; exact ⟨q0, q1, qP, va_K.moved (u := U) (U := U.calling g mk av) (Vm.Alike.refl U.vm) qK, mN_same qN⟩, fun U hU hW => ⟨rfl, by rw [hU], by rw [hU]; exact hP, va_K.moved hW.alike hK, mN_warm hW hN⟩⟩ rfl rfl hl.1 rfl (lv_room (Nat.le_of_ble_eq_true rfl)) dX5_good_18 ⟨Nat.le_of_ble_eq_true rfl, Nat.le_of_ble_eq_true rfl⟩) hS (fun q _ h => hFc q h) hFc (fun r_6 _ t H locs ht hvm hw_6 hP _ _ hS => ?_)
    have hP := kt_heap2 ht hP
    clear ht hFc
    have hP : va_P (dC, dI) vwCl (mW cI cZ cS cC cJ a v) H := hP
    refine lv_if_ne (tgt := 26) hx hb dX5_good_21 (by decide) (fun c_7 => ?_) (fun c_7 => ?_)
    · refine lv_aload_n hx hb dX5_good_26 rfl (lv_at hl 0 rfl) ?_
      refine va_get (D := (dC, dI)) (ci := 5) (v := .ref (a 1)) (C := RX5) (T := TX5) (N := 11) hx hb hts (fun w h => List.mem_cons_of_mem _ (inWX5 w h)) hown hK hP 0 at_0 rfl 0 (by decide) (hts _ (List.mem_cons_of_mem _ kw_t1_157)) (fun _ h9 => h9) rfl dX5_good_27 ?_
      refine lv_iload_n hx hb dX5_good_30 rfl (lv_at hl 2 rfl) ?_
      refine m_aldS hx hb hK hP ex_2 hx_2 dX5_good_31 ?_
      refine lv_iload_n hx hb dX5_good_32 rfl (lv_at hl 1 rfl) ?_
      refine lv_iload_n hx hb dX5_good_33 rfl (lv_at hl 3 rfl) ?_
      have hFc := mA_free (a := a) hS hA hAc
      refine va_calli (va_runV (As := [.int p0, .int p2]) (rest := []) ⟨hx, hb, hml, hown, hts⟩ (c_X3_isGoodAt l dC dI cI cZ cS cC cJ a v H.size ix_2 hx_2 p0 p2 hD hI.self) (cwV 2 hts (gV (fun w h => List.mem_cons_of_mem _ h) kw_t2_122 kw_t2_123 kw_t2_124 kw_t1_6 kw_t2_125) rfl rfl rfl (by decide +kernel) ⟨Nat.le_of_ble_eq_true rfl, Nat.le_of_ble_eq_true rfl⟩) ⟨fun av U g mk q => by obtain ⟨q0, q1, qP, qK, qN⟩ := q; exact ⟨q0, q1, qP, va_K.moved (u := U) (U := U.calling g mk av) (Vm.Alike.refl U.vm) qK, mN_same qN⟩, va_recv hK hP (ci := 3) (q0 := (10 + 3 * ix_2)) rfl (at_S hx_2), fun U hU hW => ⟨rfl, by rw [hU], by rw [hU]; exact hP, va_K.moved hW.alike hK, mN_warm hW hN⟩⟩ rfl rfl hl.1 rfl (lv_room (Nat.le_of_ble_eq_true rfl)) dX5_good_34 ⟨Nat.le_of_ble_eq_true rfl, Nat.le_of_ble_eq_true rfl⟩) hS (fun q _ h => hFc q h) hFc (fun r_8 _ t H locs ht hvm hw_8 hP _ _ hS => ?_)
      have hP := kt_heap2 ht hP
      clear ht hFc
      have hP : va_P (dC, dI) vwCl (mW cI cZ cS cC cJ a v) H := hP
      refine lv_if_eq (tgt := 44) hx hb dX5_good_37 (by decide) (fun c_9 => ?_) (fun c_9 => ?_)
      · refine lv_iconst (v := 0) hx hb dX5_good_44 (by decide) ?_
        exact W.iret (v := 0) hx hb hr (fun t ht hW => ⟨⟨0, v, rfl, hI, kt_heap ht hP⟩, hS.F ht⟩) hS.2.2 dX5_good_45
      · refine lv_iconst (v := 1) hx hb dX5_good_40 (by decide) ?_
        refine lv_goto (tgt := 45) hx hb dX5_good_41 (by decide) ?_
        exact W.iret (v := 1) hx hb hr (fun t ht hW => ⟨⟨1, v, rfl, hI, kt_heap ht hP⟩, hS.F ht⟩) hS.2.2 dX5_good_45
    · refine lv_iconst (v := (-1)) hx hb dX5_good_24 (by decide) ?_
      exact W.iret (v := (-1)) hx hb hr (fun t ht hW => ⟨⟨(-1), v, rfl, hI, kt_heap ht hP⟩, hS.F ht⟩) hS.2.2 dX5_good_25

set_option maxHeartbeats 4000000 in
set_option maxRecDepth 100000 in
theorem c_X5_plan (l : Launch) (dC : Nat → ClassId) (dI : Nat → Nat → Nat) (cI cZ cS cC cJ : ClassId) (a : Nat → Nat) (v : Nat → Nat → Int32) (sz : Nat) (p0 : Int32) (hD : mDD a) (hI : kI v v) : Met l yX5_plan (Cond.code yX5_plan cX5_plan 5 (some .int) :: WW) ({ frames := 3, cells := 0, slots := 0, locals := 90 }) (va_Pc [.ref (a 0), .int p0] (fun U => U.heap.size = sz ∧ va_P (dC, dI) vwCl (mW cI cZ cS cC cJ a v) U.heap ∧ va_K (dC, dI) vwCl [(cI, .int), (cZ, .boolean), (cS, .object RX3), (cC, .object RX0), (cJ, .long)] U ∧ mN U)) (va_Qi (fun (r : Int32) (u : Nat → Nat → Int32) => kI v u) (fun (u : Nat → Nat → Int32) (t : State) => va_P (dC, dI) vwCl (mW cI cZ cS cC cJ a u) t.heap) (mA a sz)) 0 0 (mA a sz) := by
  refine Met.ofW (cc := cX5_plan) (maxL := 5) (ret := (some .int)) (by decide) rfl ?_
  intro p e s m args below meth c s₁ B hml hv
  obtain ⟨rfl, hsz, hP, hK, hN⟩ := hv
  have hx := B.exec
  have hb := B.bytes
  have hr := B.returns
  have hts := atoms_spec (ws := Cond.code yX5_plan cX5_plan 5 (some .int) :: WW) B.pre
  have hown : s.vm.findClass RX5 = some m.cls := findClass_of_methodNamed B.named
  have hlocks := B.notSynchronized
  subst hsz
  have hAc : ∀ c, c < 81 → mA a s.heap.size (a c) := fun c h => Or.inl ⟨c, h, rfl⟩
  have hA : ∀ q : Nat, s.heap.size ≤ q → mA a s.heap.size q := fun q h => Or.inr h
  generalize hAe : mA a s.heap.size = A at hAc hA ⊢
  have hS : va_S A s.heap s.heap [] := va_S.rf
  have hl := lv_entry ([.ref (a 0), .int p0]) (n := 5) (Nat.le_of_ble_eq_true rfl)
  rw [lg_entry_eq]
  generalize (lg_sl ([.ref (a 0), .int p0]) ++ List.replicate (5 - (lg_sl ([.ref (a 0), .int p0])).length) Slot.unset).toArray = ls at hl ⊢
  have hl : lv_has ls 5 [(0, .ref (a 0)), (1, .int p0)] := hl
  refine kt_absQ (fun Q hQ9 => ?_)
  refine lv_iload_n hx hb dX5_plan_0 rfl (lv_at hl 1 rfl) ?_
  refine lv_if_lt (tgt := 12) hx hb dX5_plan_1 (by decide) (fun c_1 => ?_) (fun c_1 => ?_)
  · refine lv_iconst (v := (-1)) hx hb dX5_plan_12 (by decide) ?_
    rw [hQ9]
    exact W.iret (v := (-1)) hx hb hr (fun t ht hW => ⟨⟨(-1), v, rfl, hI, kt_heap ht hP⟩, hS.F ht⟩) hS.2.2 dX5_plan_13
  · refine lv_iload_n hx hb dX5_plan_4 rfl (lv_at hl 1 rfl) ?_
    refine lv_aload_n hx hb dX5_plan_5 rfl (lv_at hl 0 rfl) ?_
    refine va_get (D := (dC, dI)) (ci := 5) (v := .int (v 0 5)) (C := RX5) (T := TX5) (N := 11) hx hb hts (fun w h => List.mem_cons_of_mem _ (inWX5 w h)) hown hK hP 0 at_0 rfl 5 (by decide) (hts _ (List.mem_cons_of_mem _ kw_t1_162)) (fun _ h9 => h9) rfl dX5_plan_6 ?_
    refine lv_topi (fun t_2 et_2 => ?_)
    have hsc_2 : 0 ≤ t_2.toInt ∧ t_2.toInt ≤ 12 := by rw [et_2]; exact hI.sc
    refine lv_icmp_lt (tgt := 14) hx hb dX5_plan_9 (by decide) (fun c_3 => ?_) (fun c_3 => ?_)
    · refine lv_iconst (v := 0) hx hb dX5_plan_14 (by decide) ?_
      refine lv_istore_n (lv' := [(2, .int 0), (0, .ref (a 0)), (1, .int p0)]) hx hb dX5_plan_15 rfl hl (by decide) rfl (fun ls hl => ?_)
      refine lv_iconst (v := (-1)) hx hb dX5_plan_16 (by decide) ?_
      refine lv_istore_n (lv' := [(3, .int (-1)), (2, .int 0), (0, .ref (a 0)), (1, .int p0)]) hx hb dX5_plan_17 rfl hl (by decide) rfl (fun ls hl => ?_)
      refine lv_iconst (v := 0) hx hb dX5_plan_18 (by decide) ?_
      refine lv_istore (lv' := [(4, .int 0), (3, .int (-1)), (2, .int 0), (0, .ref (a 0)), (1, .int p0)]) hx hb dX5_plan_19 hl (by decide) rfl (fun ls hl => ?_)
      have hbd1 : p0.toInt < 12 := by have z0 := c_1; have z1 := c_3; have z2 := hsc_2; (try simp only [Int32.lt_iff_toInt_lt, Int32.le_iff_toInt_le, ← Int32.toInt_inj, L0, L1, L2, L3, L4, L6, L9, L500, L5, L7, L10, L12, L15, L16, L20, L63, L1000, L1023, L2000, L10000, L100000, Lm1] at z0 z1 z2); omega
      have key1 : ∀ (n i1 : Nat) (k1 : Int32) (y1_3 : Int32) (y1_2 : Int32) (w1 : Nat → Nat → Int32) (H : Heap) (locs : List Loc) (ls : Array Slot), i1 ≤ 12 → 12 - i1 < n → k1 = nI i1 → va_P (dC, dI) vwCl (mW cI cZ cS cC cJ a w1) H → va_S A s.heap H locs → lv_has ls 5 [(4, .int k1), (3, .int y1_3), (2, .int y1_2), (0, .ref (a 0)), (1, .int p0)] → kI v w1 → W p l e (headSpec (Cond.code yX5_plan cX5_plan 5 (some .int) :: WW) ({ frames := 3, cells := 0, slots := 0, locals := 90 })).room s m ([.ref (a 0), .int p0] : List Value).toArray below meth c H locs 0 0 Q (F0 m 21 ls []) := by
        intro n
        induction n with
        | zero => intro i k y1_3 y1_2 w1 H locs ls h1 h2; exact absurd h2 (by omega)
        | succ n ih1 =>
          intro i1 k1 y1_3 y1_2 w1 H locs ls hi1 hin1 ek1 hP hS hl hI
          refine lv_iload hx hb dX5_plan_21 (lv_at hl 0 rfl) ?_
          refine lv_iload_n hx hb dX5_plan_23 rfl (lv_at hl 4 rfl) ?_
          refine lv_icmp_gt (tgt := 52) hx hb dX5_plan_24 (by decide) (fun c_4 => ?_) (fun c_4 => ?_)
          · refine lv_iload_n hx hb dX5_plan_52 rfl (lv_at hl 1 rfl) ?_
            rw [hQ9]
            exact W.iret (v := y1_3) hx hb hr (fun t ht hW => ⟨⟨y1_3, w1, rfl, hI, kt_heap ht hP⟩, hS.F ht⟩) hS.2.2 dX5_plan_53
          · refine lv_aload_n hx hb dX5_plan_27 rfl (lv_at hl 3 rfl) ?_
            refine lv_iload_n hx hb dX5_plan_28 rfl (lv_at hl 2 rfl) ?_
            have hFc := mA_free (a := a) hS hA hAc
            refine va_calli (va_runV (As := [.int y1_2]) (rest := []) ⟨hx, hb, hml, hown, hts⟩ (c_X5_nextOfPlan l dC dI cI cZ cS cC cJ a w1 H.size y1_2 hD hI.self) (cwV 1 hts (gV (fun w h => List.mem_cons_of_mem _ h) kw_t2_172 kw_t2_174 kw_s0_7 kw_t1_1 kw_t2_175) rfl rfl rfl (by decide +kernel) ⟨Nat.le_of_ble_eq_true rfl, Nat.le_of_ble_eq_true rfl⟩) ⟨fun av U g mk q => by obtain ⟨q0, q1, qP, qK, qN⟩ := q; exact ⟨q0, q1, qP, va_K.moved (u := U) (U := U.calling g mk av) (Vm.Alike.refl U.vm) qK, mN_same qN⟩, va_recv hK hP (ci := 5) (q0 := 0) rfl at_0, fun U hU hW => ⟨rfl, by rw [hU], by rw [hU]; exact hP, va_K.moved hW.alike hK, mN_warm hW hN⟩⟩ rfl rfl hl.1 rfl (lv_room (Nat.le_of_ble_eq_true rfl)) dX5_plan_29 ⟨Nat.le_of_ble_eq_true rfl, Nat.le_of_ble_eq_true rfl⟩) hS (fun q _ h => hFc q h) hFc (fun r_5 _ t H locs ht hvm hw_5 hP _ _ hS => ?_)
            have hP := kt_heap2 ht hP
            clear ht hFc
            have hP : va_P (dC, dI) vwCl (mW cI cZ cS cC cJ a w1) H := hP
            refine lv_istore_n (lv' := [(3, .int r_5), (4, .int k1), (2, .int y1_2), (0, .ref (a 0)), (1, .int p0)]) hx hb dX5_plan_32 rfl hl (by decide) rfl (fun ls hl => ?_)
            refine lv_iload_n hx hb dX5_plan_33 rfl (lv_at hl 0 rfl) ?_
            refine lv_iconst (v := (-1)) hx hb dX5_plan_34 (by decide) ?_
            refine lv_icmp_ne (tgt := 40) hx hb dX5_plan_35 (by decide) (fun c_6 => ?_) (fun c_6 => ?_)
            · refine lv_iload_n hx hb dX5_plan_40 rfl (lv_at hl 2 rfl) ?_
              refine lv_iconst (v := 1) hx hb dX5_plan_41 (by decide) ?_
              refine lv_iload_n hx hb dX5_plan_42 rfl (lv_at hl 0 rfl) ?_
              refine lv_ishl hx hb dX5_plan_43 ?_
              refine lv_topi (fun t_7 et_7 => ?_)
              refine lv_ior hx hb dX5_plan_44 ?_
              refine lv_topi (fun t_8 et_8 => ?_)
              refine lv_istore_n (lv' := [(2, .int t_8), (3, .int r_5), (4, .int k1), (0, .ref (a 0)), (1, .int p0)]) hx hb dX5_plan_45 rfl hl (by decide) rfl (fun ls hl => ?_)
              obtain ⟨t_9, et_9⟩ : ∃ y : Int32, y = k1 + 1 := ⟨_, rfl⟩
              refine lv_iinc (v := t_9) (lv' := [(4, .int t_9), (2, .int t_8), (3, .int r_5), (0, .ref (a 0)), (1, .int p0)]) hx hb dX5_plan_46 hl (k := 2) rfl (by rw [et_9]; rfl) (by decide) rfl (fun ls hl => ?_)
              refine lv_goto (tgt := 21) hx hb dX5_plan_49 (by decide) ?_
              have hi_10 : i1 < 12 := kt_leB hbd1 ek1 hi1 c_4
              exact ih1 (i1 + 1) t_9 r_5 t_8 w1 _ _ _ (by omega) (by omega) (by rw [et_9, ek1]; exact nI_1 i1) hP hS (lv_sub hl [0, 2, 1, 3, 4] rfl) hI
            · refine lv_iconst (v := (-1)) hx hb dX5_plan_38 (by decide) ?_
              rw [hQ9]
              exact W.iret (v := (-1)) hx hb hr (fun t ht hW => ⟨⟨(-1), w1, rfl, hI, kt_heap ht hP⟩, hS.F ht⟩) hS.2.2 dX5_plan_39
      exact key1 (12 + 1) 0 0 (-1) 0 v _ _ _ (Nat.zero_le _) (by omega) rfl hP hS (lv_sub hl [0, 1, 2, 3, 4] rfl) hI
    · refine lv_iconst (v := (-1)) hx hb dX5_plan_12 (by decide) ?_
      rw [hQ9]
      exact W.iret (v := (-1)) hx hb hr (fun t ht hW => ⟨⟨(-1), v, rfl, hI, kt_heap ht hP⟩, hS.F ht⟩) hS.2.2 dX5_plan_13

set_option maxHeartbeats 4000000 in
set_option maxRecDepth 100000 in
theorem c_X5_hangs (l : Launch) (dC : Nat → ClassId) (dI : Nat → Nat → Nat) (cI cZ cS cC cJ : ClassId) (a : Nat → Nat) (v : Nat → Nat → Int32) (sz : Nat) (p0 p1 : Int32) (hD : mDD a) (hI : kI v v) : Met l yX5_hangs (Cond.code yX5_hangs cX5_hangs 3 (some .boolean) :: WW) ({ frames := 3, cells := 0, slots := 0, locals := 90 }) (va_Pc [.ref (a 0), .int p0, .int p1] (fun U => U.heap.size = sz ∧ va_P (dC, dI) vwCl (mW cI cZ cS cC cJ a v) U.heap ∧ va_K (dC, dI) vwCl [(cI, .int), (cZ, .boolean), (cS, .object RX3), (cC, .object RX0), (cJ, .long)] U ∧ mN U)) (va_Qi (fun (r : Int32) (u : Nat → Nat → Int32) => kI v u ∧ ((r = 0 ∨ r = 1) ∧ (r = 1 ↔ hgS (v 0 5) (fun x z => dnb (v 4 x) z) p0 p1))) (fun (u : Nat → Nat → Int32) (t : State) => va_P (dC, dI) vwCl (mW cI cZ cS cC cJ a u) t.heap) (mA a sz)) 0 0 (mA a sz) := by
  refine Met.ofW (cc := cX5_hangs) (maxL := 3) (ret := (some .boolean)) (by decide) rfl ?_
  intro p e s m args below meth c s₁ B hml hv
  obtain ⟨rfl, hsz, hP, hK, hN⟩ := hv
  have hx := B.exec
  have hb := B.bytes
  have hr := B.returns
  have hts := atoms_spec (ws := Cond.code yX5_hangs cX5_hangs 3 (some .boolean) :: WW) B.pre
  have hown : s.vm.findClass RX5 = some m.cls := findClass_of_methodNamed B.named
  have hlocks := B.notSynchronized
  subst hsz
  have hAc : ∀ c, c < 81 → mA a s.heap.size (a c) := fun c h => Or.inl ⟨c, h, rfl⟩
  have hA : ∀ q : Nat, s.heap.size ≤ q → mA a s.heap.size q := fun q h => Or.inr h
  generalize hAe : mA a s.heap.size = A at hAc hA ⊢
  have hS : va_S A s.heap s.heap [] := va_S.rf
  have hl := lv_entry ([.ref (a 0), .int p0, .int p1]) (n := 3) (Nat.le_of_ble_eq_true rfl)
  rw [lg_entry_eq]
  generalize (lg_sl ([.ref (a 0), .int p0, .int p1]) ++ List.replicate (3 - (lg_sl ([.ref (a 0), .int p0, .int p1])).length) Slot.unset).toArray = ls at hl ⊢
  have hl : lv_has ls 3 [(0, .ref (a 0)), (1, .int p0), (2, .int p1)] := hl
  refine lv_aload_n hx hb dX5_hangs_0 rfl (lv_at hl 0 rfl) ?_
  refine lv_iload_n hx hb dX5_hangs_1 rfl (lv_at hl 1 rfl) ?_
  have hFc := mA_free (a := a) hS hA hAc
  refine va_calli (va_runV (As := [.int p0]) (rest := []) ⟨hx, hb, hml, hown, hts⟩ (c_X5_isSecret l dC dI cI cZ cS cC cJ a v s.heap.size p0 hD hI.self) (cwV 1 hts (gV (fun w h => List.mem_cons_of_mem _ h) kw_t1_203 kw_t1_205 kw_s0_0 kw_t1_1 kw_t1_206) rfl rfl rfl (by decide +kernel) ⟨Nat.le_of_ble_eq_true rfl, Nat.le_of_ble_eq_true rfl⟩) ⟨fun av U g mk q => by obtain ⟨q0, q1, qP, qK, qN⟩ := q; exact ⟨q0, q1, qP, va_K.moved (u := U) (U := U.calling g mk av) (Vm.Alike.refl U.vm) qK, mN_same qN⟩, va_recv hK hP (ci := 5) (q0 := 0) rfl at_0, fun U hU hW => ⟨rfl, by rw [hU], by rw [hU]; exact hP, va_K.moved hW.alike hK, mN_warm hW hN⟩⟩ rfl rfl hl.1 rfl (lv_room (Nat.le_of_ble_eq_true rfl)) dX5_hangs_2 ⟨Nat.le_of_ble_eq_true rfl, Nat.le_of_ble_eq_true rfl⟩) hS (fun q _ h => hFc q h) hFc (fun r_1 _ t H locs ht hvm hw_1 hP _ _ hS => ?_)
  have hP := kt_heap2 ht hP
  clear ht hFc
  have hP : va_P (dC, dI) vwCl (mW cI cZ cS cC cJ a v) H := hP
  rcases hw_1 with ⟨hz_2, hns_2⟩ | ⟨hz_2, his_2, ix_2, hx_2, ex_2⟩
  · subst hz_2
    refine lv_if_eq (tgt := 32) hx hb dX5_hangs_5 (by decide) (fun c_3 => ?_) (fun c_3 => absurd (by decide) c_3)
    refine lv_iconst (v := 0) hx hb dX5_hangs_32 (by decide) ?_
    exact W.zret (v := 0) (ty := .boolean) hx hb hr rfl (fun t ht hW => ⟨⟨0, v, rfl, ⟨hI, ⟨Or.inl rfl, ⟨fun z => absurd z (by decide), fun z => absurd z.1 hns_2⟩⟩⟩, kt_heap ht hP⟩, hS.F ht⟩) hS.2.2 dX5_hangs_33
  · subst hz_2
    refine lv_if_eq (tgt := 32) hx hb dX5_hangs_5 (by decide) (fun c_4 => absurd c_4 (by decide)) (fun c_4 => ?_)
    refine lv_aload_n hx hb dX5_hangs_8 rfl (lv_at hl 0 rfl) ?_
    refine lv_iload_n hx hb dX5_hangs_9 rfl (lv_at hl 2 rfl) ?_
    have hFc := mA_free (a := a) hS hA hAc
    refine va_calli (va_runV (As := [.int p1]) (rest := []) ⟨hx, hb, hml, hown, hts⟩ (c_X5_isSecret l dC dI cI cZ cS cC cJ a v H.size p1 hD hI.self) (cwV 1 hts (gV (fun w h => List.mem_cons_of_mem _ h) kw_t1_203 kw_t1_205 kw_s0_0 kw_t1_1 kw_t1_206) rfl rfl rfl (by decide +kernel) ⟨Nat.le_of_ble_eq_true rfl, Nat.le_of_ble_eq_true rfl⟩) ⟨fun av U g mk q => by obtain ⟨q0, q1, qP, qK, qN⟩ := q; exact ⟨q0, q1, qP, va_K.moved (u := U) (U := U.calling g mk av) (Vm.Alike.refl U.vm) qK, mN_same qN⟩, va_recv hK hP (ci := 5) (q0 := 0) rfl at_0, fun U hU hW => ⟨rfl, by rw [hU], by rw [hU]; exact hP, va_K.moved hW.alike hK, mN_warm hW hN⟩⟩ rfl rfl hl.1 rfl (lv_room (Nat.le_of_ble_eq_true rfl)) dX5_hangs_10 ⟨Nat.le_of_ble_eq_true rfl, Nat.le_of_ble_eq_true rfl⟩) hS (fun q _ h => hFc q h) hFc (fun r_5 _ t H locs ht hvm hw_5 hP _ _ hS => ?_)
    have hP := kt_heap2 ht hP
    clear ht hFc
    have hP : va_P (dC, dI) vwCl (mW cI cZ cS cC cJ a v) H := hP
    rcases hw_5 with ⟨hz_6, hns_6⟩ | ⟨hz_6, his_6, ix_6, hx_6, ex_6⟩
    · subst hz_6
      refine lv_if_eq (tgt := 32) hx hb dX5_hangs_13 (by decide) (fun c_7 => ?_) (fun c_7 => absurd (by decide) c_7)
      refine lv_iconst (v := 0) hx hb dX5_hangs_32 (by decide) ?_
      exact W.zret (v := 0) (ty := .boolean) hx hb hr rfl (fun t ht hW => ⟨⟨0, v, rfl, ⟨hI, ⟨Or.inl rfl, ⟨fun z => absurd z (by decide), fun z => absurd z.2.1 hns_6⟩⟩⟩, kt_heap ht hP⟩, hS.F ht⟩) hS.2.2 dX5_hangs_33
    · subst hz_6
      refine lv_if_eq (tgt := 32) hx hb dX5_hangs_13 (by decide) (fun c_8 => absurd c_8 (by decide)) (fun c_8 => ?_)
      refine lv_aload_n hx hb dX5_hangs_16 rfl (lv_at hl 0 rfl) ?_
      refine va_get (D := (dC, dI)) (ci := 5) (v := .ref (a 3)) (C := RX5) (T := TX5) (N := 11) hx hb hts (fun w h => List.mem_cons_of_mem _ (inWX5 w h)) hown hK hP 0 at_0 rfl 2 (by decide) (hts _ (List.mem_cons_of_mem _ kw_t1_159)) (fun _ h9 => h9) rfl dX5_hangs_17 ?_
      refine lv_iload_n hx hb dX5_hangs_20 rfl (lv_at hl 1 rfl) ?_
      refine lv_iload_n hx hb dX5_hangs_21 rfl (lv_at hl 2 rfl) ?_
      have hFc := mA_free (a := a) hS hA hAc
      refine va_calli (va_runV (As := [.int p0, .int p1]) (rest := []) ⟨hx, hb, hml, hown, hts⟩ (c_X4_isReached l dC dI cI cZ cS cC cJ a v H.size p0 p1 hD hI.self ix_2 hx_2 ex_2) (cwV 2 hts (gV (fun w h => List.mem_cons_of_mem _ h) kw_t1_214 kw_t1_215 kw_t1_216 kw_t1_2 kw_t1_217) rfl rfl rfl (by decide +kernel) ⟨Nat.le_of_ble_eq_true rfl, Nat.le_of_ble_eq_true rfl⟩) ⟨fun av U g mk q => by obtain ⟨q0, q1, qP, qK, qN⟩ := q; exact ⟨q0, q1, qP, va_K.moved (u := U) (U := U.calling g mk av) (Vm.Alike.refl U.vm) qK, mN_same qN⟩, va_recv hK hP (ci := 4) (q0 := 3) rfl at_3, fun U hU hW => ⟨rfl, by rw [hU], by rw [hU]; exact hP, va_K.moved hW.alike hK, mN_warm hW hN⟩⟩ rfl rfl hl.1 rfl (lv_room (Nat.le_of_ble_eq_true rfl)) dX5_hangs_22 ⟨Nat.le_of_ble_eq_true rfl, Nat.le_of_ble_eq_true rfl⟩) hS (fun q _ h => hFc q h) hFc (fun r_9 _ t H locs ht hvm hw_9 hP _ _ hS => ?_)
      have hP := kt_heap2 ht hP
      clear ht hFc
      have hP : va_P (dC, dI) vwCl (mW cI cZ cS cC cJ a v) H := hP
      refine lv_if_eq (tgt := 32) hx hb dX5_hangs_25 (by decide) (fun c_10 => ?_) (fun c_10 => ?_)
      · refine lv_iconst (v := 0) hx hb dX5_hangs_32 (by decide) ?_
        have ck0 : ck p0 = ix_2 := ck_of ex_2 (by omega)
        have ck1 : ck p1 = ix_6 := ck_of ex_6 (by omega)
        exact W.zret (v := 0) (ty := .boolean) hx hb hr rfl (fun t ht hW => ⟨⟨0, v, rfl, ⟨hI, ⟨Or.inl rfl, ⟨fun z => absurd z (by decide), fun z => absurd ((hw_9.2 _ hx_6 ex_6).mpr (by have z9 := z.2.2; rw [ck0, ck1] at z9; exact z9)) (by rw [c_10]; decide)⟩⟩⟩, kt_heap ht hP⟩, hS.F ht⟩) hS.2.2 dX5_hangs_33
      · refine lv_iconst (v := 1) hx hb dX5_hangs_28 (by decide) ?_
        refine lv_goto (tgt := 33) hx hb dX5_hangs_29 (by decide) ?_
        have ck0 : ck p0 = ix_2 := ck_of ex_2 (by omega)
        have ck1 : ck p1 = ix_6 := ck_of ex_6 (by omega)
        exact W.zret (v := 1) (ty := .boolean) hx hb hr rfl (fun t ht hW => ⟨⟨1, v, rfl, ⟨hI, ⟨Or.inr rfl, ⟨fun _ => ⟨his_2, his_6, by rw [ck0, ck1]; exact (hw_9.2 _ hx_6 ex_6).mp (hw_9.1.resolve_left c_10)⟩, fun _ => rfl⟩⟩⟩, kt_heap ht hP⟩, hS.F ht⟩) hS.2.2 dX5_hangs_33

set_option maxHeartbeats 4000000 in
set_option maxRecDepth 100000 in
theorem c_X5_count (l : Launch) (dC : Nat → ClassId) (dI : Nat → Nat → Nat) (cI cZ cS cC cJ : ClassId) (a : Nat → Nat) (v : Nat → Nat → Int32) (sz : Nat) (p0 : Int32) (hD : mDD a) (hI : kI v v) : Met l yX5_count (Cond.code yX5_count cX5_count 2 (some .int) :: WW) ({ frames := 4, cells := 0, slots := 0, locals := 120 }) (va_Pc [.ref (a 0), .int p0] (fun U => U.heap.size = sz ∧ va_P (dC, dI) vwCl (mW cI cZ cS cC cJ a v) U.heap ∧ va_K (dC, dI) vwCl [(cI, .int), (cZ, .boolean), (cS, .object RX3), (cC, .object RX0), (cJ, .long)] U ∧ mN U)) (va_Qi (fun (r : Int32) (u : Nat → Nat → Int32) => kI v u) (fun (u : Nat → Nat → Int32) (t : State) => va_P (dC, dI) vwCl (mW cI cZ cS cC cJ a u) t.heap) (mA a sz)) 0 0 (mA a sz) := by
  refine Met.ofW (cc := cX5_count) (maxL := 2) (ret := (some .int)) (by decide) rfl ?_
  intro p e s m args below meth c s₁ B hml hv
  obtain ⟨rfl, hsz, hP, hK, hN⟩ := hv
  have hx := B.exec
  have hb := B.bytes
  have hr := B.returns
  have hts := atoms_spec (ws := Cond.code yX5_count cX5_count 2 (some .int) :: WW) B.pre
  have hown : s.vm.findClass RX5 = some m.cls := findClass_of_methodNamed B.named
  have hlocks := B.notSynchronized
  subst hsz
  have hAc : ∀ c, c < 81 → mA a s.heap.size (a c) := fun c h => Or.inl ⟨c, h, rfl⟩
  have hA : ∀ q : Nat, s.heap.size ≤ q → mA a s.heap.size q := fun q h => Or.inr h
  generalize hAe : mA a s.heap.size = A at hAc hA ⊢
  have hS : va_S A s.heap s.heap [] := va_S.rf
  have hl := lv_entry ([.ref (a 0), .int p0]) (n := 2) (Nat.le_of_ble_eq_true rfl)
  rw [lg_entry_eq]
  generalize (lg_sl ([.ref (a 0), .int p0]) ++ List.replicate (2 - (lg_sl ([.ref (a 0), .int p0])).length) Slot.unset).toArray = ls at hl ⊢
  have hl : lv_has ls 2 [(0, .ref (a 0)), (1, .int p0)] := hl
  refine lv_iload_n hx hb dX5_count_0 rfl (lv_at hl 1 rfl) ?_
  rcases kt_sw_0_7 p0 with g_1 | g_1 | g_1 | g_1 | g_1 | g_1 | g_1 | g_1 | g_1
  · refine lv_tableIn (off := 47) (tgt := 48) hx hb dX5_count_1 (by rw [g_1]; decide) (by rw [g_1]; decide) (by rw [g_1]; decide) (by decide) ?_
    refine lv_aload_n hx hb dX5_count_48 rfl (lv_at hl 0 rfl) ?_
    refine va_get (D := (dC, dI)) (ci := 5) (v := .int (v 0 6)) (C := RX5) (T := TX5) (N := 11) hx hb hts (fun w h => List.mem_cons_of_mem _ (inWX5 w h)) hown hK hP 0 at_0 rfl 6 (by decide) (hts _ (List.mem_cons_of_mem _ kw_t1_163)) (fun _ h9 => h9) rfl dX5_count_49 ?_
    refine lv_topi (fun t_2 et_2 => ?_)
    exact W.iret (v := t_2) hx hb hr (fun t ht hW => ⟨⟨t_2, v, rfl, hI, kt_heap ht hP⟩, hS.F ht⟩) hS.2.2 dX5_count_52
  · refine lv_tableIn (off := 52) (tgt := 53) hx hb dX5_count_1 (by rw [g_1]; decide) (by rw [g_1]; decide) (by rw [g_1]; decide) (by decide) ?_
    refine lv_aload_n hx hb dX5_count_53 rfl (lv_at hl 0 rfl) ?_
    refine va_get (D := (dC, dI)) (ci := 5) (v := .int (v 0 5)) (C := RX5) (T := TX5) (N := 11) hx hb hts (fun w h => List.mem_cons_of_mem _ (inWX5 w h)) hown hK hP 0 at_0 rfl 5 (by decide) (hts _ (List.mem_cons_of_mem _ kw_t1_162)) (fun _ h9 => h9) rfl dX5_count_54 ?_
    refine lv_topi (fun t_3 et_3 => ?_)
    have hsc_3 : 0 ≤ t_3.toInt ∧ t_3.toInt ≤ 12 := by rw [et_3]; exact hI.sc
    exact W.iret (v := t_3) hx hb hr (fun t ht hW => ⟨⟨t_3, v, rfl, hI, kt_heap ht hP⟩, hS.F ht⟩) hS.2.2 dX5_count_57
  · refine lv_tableIn (off := 57) (tgt := 58) hx hb dX5_count_1 (by rw [g_1]; decide) (by rw [g_1]; decide) (by rw [g_1]; decide) (by decide) ?_
    refine lv_aload_n hx hb dX5_count_58 rfl (lv_at hl 0 rfl) ?_
    refine va_get (D := (dC, dI)) (ci := 5) (v := .ref (a 7)) (C := RX5) (T := TX5) (N := 11) hx hb hts (fun w h => List.mem_cons_of_mem _ (inWX5 w h)) hown hK hP 0 at_0 rfl 4 (by decide) (hts _ (List.mem_cons_of_mem _ kw_t1_161)) (fun _ h9 => h9) rfl dX5_count_59 ?_
    refine va_get (D := (dC, dI)) (ci := 1) (v := .int (v 7 1)) (C := RX1) (T := TX1) (N := 2) hx hb hts (fun w h => List.mem_cons_of_mem _ (inWX1 w h)) hown hK hP 7 at_7 rfl 1 (by decide) (hts _ (List.mem_cons_of_mem _ kw_t1_63)) (fun _ h9 => h9) rfl dX5_count_62 ?_
    refine lv_topi (fun t_4 et_4 => ?_)
    exact W.iret (v := t_4) hx hb hr (fun t ht hW => ⟨⟨t_4, v, rfl, hI, kt_heap ht hP⟩, hS.F ht⟩) hS.2.2 dX5_count_65
  · refine lv_tableIn (off := 65) (tgt := 66) hx hb dX5_count_1 (by rw [g_1]; decide) (by rw [g_1]; decide) (by rw [g_1]; decide) (by decide) ?_
    refine lv_aload_n hx hb dX5_count_66 rfl (lv_at hl 0 rfl) ?_
    have hFc := mA_free (a := a) hS hA hAc
    refine va_calli (va_runV (As := []) (rest := []) ⟨hx, hb, hml, hown, hts⟩ (c_X5_turnsGoingOn l dC dI cI cZ cS cC cJ a v s.heap.size hD hI.self) (cwV 0 hts (gV (fun w h => List.mem_cons_of_mem _ h) kw_t2_188 kw_t2_190 kw_s0_8 kw_t1_1 kw_t2_191) rfl rfl rfl (by decide +kernel) ⟨Nat.le_of_ble_eq_true rfl, Nat.le_of_ble_eq_true rfl⟩) ⟨fun av U g mk q => by obtain ⟨q0, q1, qP, qK, qN⟩ := q; exact ⟨q0, q1, qP, va_K.moved (u := U) (U := U.calling g mk av) (Vm.Alike.refl U.vm) qK, mN_same qN⟩, va_recv hK hP (ci := 5) (q0 := 0) rfl at_0, fun U hU hW => ⟨rfl, by rw [hU], by rw [hU]; exact hP, va_K.moved hW.alike hK, mN_warm hW hN⟩⟩ rfl rfl hl.1 rfl (lv_room (Nat.le_of_ble_eq_true rfl)) dX5_count_67 ⟨Nat.le_of_ble_eq_true rfl, Nat.le_of_ble_eq_true rfl⟩) hS (fun q _ h => hFc q h) hFc (fun r_5 _ t H locs ht hvm hw_5 hP _ _ hS => ?_)
    have hP := kt_heap2 ht hP
    clear ht hFc
    have hP : va_P (dC, dI) vwCl (mW cI cZ cS cC cJ a v) H := hP
    exact W.iret (v := r_5) hx hb hr (fun t ht hW => ⟨⟨r_5, v, rfl, hI, kt_heap ht hP⟩, hS.F ht⟩) hS.2.2 dX5_count_70
  · refine lv_tableIn (off := 70) (tgt := 71) hx hb dX5_count_1 (by rw [g_1]; decide) (by rw [g_1]; decide) (by rw [g_1]; decide) (by decide) ?_
    refine lv_aload_n hx hb dX5_count_71 rfl (lv_at hl 0 rfl) ?_
    have hFc := mA_free (a := a) hS hA hAc
    refine va_calli (va_runV (As := []) (rest := []) ⟨hx, hb, hml, hown, hts⟩ (c_X5_lettersUnanswered l dC dI cI cZ cS cC cJ a v s.heap.size hD hI.self) (cwV 0 hts (gV (fun w h => List.mem_cons_of_mem _ h) kw_t2_192 kw_t2_194 kw_s0_9 kw_t1_1 kw_t2_195) rfl rfl rfl (by decide +kernel) ⟨Nat.le_of_ble_eq_true rfl, Nat.le_of_ble_eq_true rfl⟩) ⟨fun av U g mk q => by obtain ⟨q0, q1, qP, qK, qN⟩ := q; exact ⟨q0, q1, qP, va_K.moved (u := U) (U := U.calling g mk av) (Vm.Alike.refl U.vm) qK, mN_same qN⟩, va_recv hK hP (ci := 5) (q0 := 0) rfl at_0, fun U hU hW => ⟨rfl, by rw [hU], by rw [hU]; exact hP, va_K.moved hW.alike hK, mN_warm hW hN⟩⟩ rfl rfl hl.1 rfl (lv_room (Nat.le_of_ble_eq_true rfl)) dX5_count_72 ⟨Nat.le_of_ble_eq_true rfl, Nat.le_of_ble_eq_true rfl⟩) hS (fun q _ h => hFc q h) hFc (fun r_6 _ t H locs ht hvm hw_6 hP _ _ hS => ?_)
    have hP := kt_heap2 ht hP
    clear ht hFc
    have hP : va_P (dC, dI) vwCl (mW cI cZ cS cC cJ a v) H := hP
    exact W.iret (v := r_6) hx hb hr (fun t ht hW => ⟨⟨r_6, v, rfl, hI, kt_heap ht hP⟩, hS.F ht⟩) hS.2.2 dX5_count_75
  · refine lv_tableIn (off := 75) (tgt := 76) hx hb dX5_count_1 (by rw [g_1]; decide) (by rw [g_1]; decide) (by rw [g_1]; decide) (by decide) ?_
    refine lv_aload_n hx hb dX5_count_76 rfl (lv_at hl 0 rfl) ?_
    refine va_get (D := (dC, dI)) (ci := 5) (v := .int (v 0 9)) (C := RX5) (T := TX5) (N := 11) hx hb hts (fun w h => List.mem_cons_of_mem _ (inWX5 w h)) hown hK hP 0 at_0 rfl 9 (by decide) (hts _ (List.mem_cons_of_mem _ kw_t1_166)) (fun _ h9 => h9) rfl dX5_count_77 ?_
    refine lv_topi (fun t_7 et_7 => ?_)
    exact W.iret (v := t_7) hx hb hr (fun t ht hW => ⟨⟨t_7, v, rfl, hI, kt_heap ht hP⟩, hS.F ht⟩) hS.2.2 dX5_count_80
  · refine lv_tableIn (off := 80) (tgt := 81) hx hb dX5_count_1 (by rw [g_1]; decide) (by rw [g_1]; decide) (by rw [g_1]; decide) (by decide) ?_
    refine lv_aload_n hx hb dX5_count_81 rfl (lv_at hl 0 rfl) ?_
    refine va_get (D := (dC, dI)) (ci := 5) (v := .int (v 0 10)) (C := RX5) (T := TX5) (N := 11) hx hb hts (fun w h => List.mem_cons_of_mem _ (inWX5 w h)) hown hK hP 0 at_0 rfl 10 (by decide) (hts _ (List.mem_cons_of_mem _ kw_t1_167)) (fun _ h9 => h9) rfl dX5_count_82 ?_
    refine lv_topi (fun t_8 et_8 => ?_)
    exact W.iret (v := t_8) hx hb hr (fun t ht hW => ⟨⟨t_8, v, rfl, hI, kt_heap ht hP⟩, hS.F ht⟩) hS.2.2 dX5_count_85
  · refine lv_tableIn (off := 85) (tgt := 86) hx hb dX5_count_1 (by rw [g_1]; decide) (by rw [g_1]; decide) (by rw [g_1]; decide) (by decide) ?_
    refine lv_aload_n hx hb dX5_count_86 rfl (lv_at hl 0 rfl) ?_
    have hFc := mA_free (a := a) hS hA hAc
    refine va_calli (va_runV (As := []) (rest := []) ⟨hx, hb, hml, hown, hts⟩ (c_X5_secretsPastLife l dC dI cI cZ cS cC cJ a v s.heap.size hD hI.self) (cwV 0 hts (gV (fun w h => List.mem_cons_of_mem _ h) kw_t2_196 kw_t2_198 kw_s0_10 kw_t1_1 kw_t2_199) rfl rfl rfl (by decide +kernel) ⟨Nat.le_of_ble_eq_true rfl, Nat.le_of_ble_eq_true rfl⟩) ⟨fun av U g mk q => by obtain ⟨q0, q1, qP, qK, qN⟩ := q; exact ⟨q0, q1, qP, va_K.moved (u := U) (U := U.calling g mk av) (Vm.Alike.refl U.vm) qK, mN_same qN⟩, va_recv hK hP (ci := 5) (q0 := 0) rfl at_0, fun U hU hW => ⟨rfl, by rw [hU], by rw [hU]; exact hP, va_K.moved hW.alike hK, mN_warm hW hN⟩⟩ rfl rfl hl.1 rfl (lv_room (Nat.le_of_ble_eq_true rfl)) dX5_count_87 ⟨Nat.le_of_ble_eq_true rfl, Nat.le_of_ble_eq_true rfl⟩) hS (fun q _ h => hFc q h) hFc (fun r_9 _ t H locs ht hvm hw_9 hP _ _ hS => ?_)
    have hP := kt_heap2 ht hP
    clear ht hFc
    have hP : va_P (dC, dI) vwCl (mW cI cZ cS cC cJ a v) H := hP
    exact W.iret (v := r_9) hx hb hr (fun t ht hW => ⟨⟨r_9, v, rfl, hI, kt_heap ht hP⟩, hS.F ht⟩) hS.2.2 dX5_count_90
  · refine lv_tableOut (tgt := 91) hx hb dX5_count_1 g_1 (by decide) ?_
    refine lv_iconst (v := (-1)) hx hb dX5_count_91 (by decide) ?_
    exact W.iret (v := (-1)) hx hb hr (fun t ht hW => ⟨⟨(-1), v, rfl, hI, kt_heap ht hP⟩, hS.F ht⟩) hS.2.2 dX5_count_92
