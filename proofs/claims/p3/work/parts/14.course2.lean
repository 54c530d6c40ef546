set_option maxHeartbeats 4000000 in
set_option maxRecDepth 100000 in
theorem c_X0_write (l : Launch) (dC : Nat → ClassId) (dI : Nat → Nat → Nat) (cI cZ cS cC cJ : ClassId) (a : Nat → Nat) (v : Nat → Nat → Int32) (sz : Nat) (i : Nat) (hi : i < 12) (p0 p1 : Int32) (hD : mDD a) (hI : kI v v) : Met l yX0_write (Cond.code yX0_write cX0_write 5 none :: WW) ({ frames := 1, cells := 0, slots := 0, locals := 30 }) (va_Pc [.ref (a (9 + 3 * i)), .int p0, .int p1, .ref (a 5)] (fun U => U.heap.size = sz ∧ va_P (dC, dI) vwCl (mW cI cZ cS cC cJ a v) U.heap ∧ va_K (dC, dI) vwCl [(cI, .int), (cZ, .boolean), (cS, .object RX3), (cC, .object RX0), (cJ, .long)] U ∧ mN U)) (va_Qv (fun (u : Nat → Nat → Int32) => kI v u) (fun (u : Nat → Nat → Int32) (t : State) => va_P (dC, dI) vwCl (mW cI cZ cS cC cJ a u) t.heap) (mA a sz)) 0 0 (mA a sz) := by
  refine Met.ofW (cc := cX0_write) (maxL := 5) (ret := none) (by decide) rfl ?_
  intro p e s m args below meth c s₁ B hml hv
  obtain ⟨rfl, hsz, hP, hK, hN⟩ := hv
  have hx := B.exec
  have hb := B.bytes
  have hr := B.returns
  have hts := atoms_spec (ws := Cond.code yX0_write cX0_write 5 none :: WW) B.pre
  have hown : s.vm.findClass RX0 = some m.cls := findClass_of_methodNamed B.named
  have hlocks := B.notSynchronized
  subst hsz
  have hAc : ∀ c, c < 81 → mA a s.heap.size (a c) := fun c h => Or.inl ⟨c, h, rfl⟩
  have hA : ∀ q : Nat, s.heap.size ≤ q → mA a s.heap.size q := fun q h => Or.inr h
  generalize hAe : mA a s.heap.size = A at hAc hA ⊢
  have hS : va_S A s.heap s.heap [] := va_S.rf
  have hl := lv_entry ([.ref (a (9 + 3 * i)), .int p0, .int p1, .ref (a 5)]) (n := 5) (Nat.le_of_ble_eq_true rfl)
  rw [lg_entry_eq]
  generalize (lg_sl ([.ref (a (9 + 3 * i)), .int p0, .int p1, .ref (a 5)]) ++ List.replicate (5 - (lg_sl ([.ref (a (9 + 3 * i)), .int p0, .int p1, .ref (a 5)])).length) Slot.unset).toArray = ls at hl ⊢
  have hl : lv_has ls 5 [(0, .ref (a (9 + 3 * i))), (1, .int p0), (2, .int p1), (3, .ref (a 5))] := hl
  refine kt_absQ (fun Q hQ9 => ?_)
  refine lv_iconst (v := 0) hx hb dX0_write_0 (by decide) ?_
  refine lv_istore (lv' := [(4, .int 0), (0, .ref (a (9 + 3 * i))), (1, .int p0), (2, .int p1), (3, .ref (a 5))]) hx hb dX0_write_1 hl (by decide) rfl (fun ls hl => ?_)
  have key1 : ∀ (n i1 : Nat) (k1 : Int32) (w1 : Nat → Nat → Int32) (H : Heap) (locs : List Loc) (ls : Array Slot), i1 ≤ 16 → 16 - i1 < n → k1 = nI i1 → va_P (dC, dI) vwCl (mW cI cZ cS cC cJ a w1) H → va_S A s.heap H locs → lv_has ls 5 [(4, .int k1), (0, .ref (a (9 + 3 * i))), (1, .int p0), (2, .int p1), (3, .ref (a 5))] → kI v w1 → W p l e (headSpec (Cond.code yX0_write cX0_write 5 none :: WW) ({ frames := 1, cells := 0, slots := 0, locals := 30 })).room s m ([.ref (a (9 + 3 * i)), .int p0, .int p1, .ref (a 5)] : List Value).toArray below meth c H locs 0 0 Q (F0 m 3 ls []) := by
    intro n
    induction n with
    | zero => intro i k w1 H locs ls h1 h2; exact absurd h2 (by omega)
    | succ n ih1 =>
      intro i1 k1 w1 H locs ls hi1 hin1 ek1 hP hS hl hI
      refine lv_iload hx hb dX0_write_3 (lv_at hl 0 rfl) ?_
      refine lv_bipush (v := 16) hx hb dX0_write_5 (by decide) ?_
      refine lv_icmp_ge (tgt := 45) hx hb dX0_write_7 (by decide) (fun c_1 => ?_) (fun c_1 => ?_)
      · refine lv_aload_n hx hb dX0_write_45 rfl (lv_at hl 1 rfl) ?_
        refine lv_dup hx hb dX0_write_46 rfl ?_
        refine va_get (D := (dC, dI)) (ci := 0) (v := .int (w1 (9 + 3 * i) 2)) (C := RX0) (T := TX0) (N := 9) hx hb hts (fun w h => List.mem_cons_of_mem _ (inWX0 w h)) hown hK hP (9 + 3 * i) (at_C hi) rfl 2 (by decide) (hts _ (List.mem_cons_of_mem _ kw_t1_127)) (fun _ h9 => h9) rfl dX0_write_47 ?_
        refine lv_topi (fun t_2 et_2 => ?_)
        refine lv_iload_n hx hb dX0_write_50 rfl (lv_at hl 2 rfl) ?_
        refine lv_ior hx hb dX0_write_51 ?_
        refine lv_topi (fun t_3 et_3 => ?_)
        refine va_put (D := (dC, dI)) (ci := 0) (v := .int t_3) (ty := .int) (C := RX0) (T := TX0) (N := 9) hx hb hts (fun w h => List.mem_cons_of_mem _ (inWX0 w h)) tyX0 tyX0_ok nmX0 hown hK hP (mD_of hD hAc) hS (9 + 3 * i) (at_C hi) rfl 2 (by decide) (hts _ (List.mem_cons_of_mem _ kw_t1_127)) (fun _ h9 => h9) rfl (by decide +kernel) rfl rfl (Nat.le_of_ble_eq_true rfl) dX0_write_52 (fun H locs hP _ hS => ?_)
        obtain ⟨v_4, ev_4⟩ : ∃ z, z = mU w1 (9 + 3 * i) (upd (w1 (9 + 3 * i)) 2 t_3) := ⟨_, rfl⟩
        have hP : va_P (dC, dI) vwCl (mW cI cZ cS cC cJ a v_4) H := by rw [ev_4]; exact mW_put hP (by omega) (by rw [gE_C hi]; rfl)
        have hI := hI.put ev_4 (by omega)
        rw [hQ9]
        exact W.vret hx hb hr (fun t ht hW => ⟨⟨v_4, rfl, hI, kt_heap ht hP⟩, hS.F ht⟩) hS.2.2 dX0_write_55
      · refine lv_iload_n hx hb dX0_write_10 rfl (lv_at hl 2 rfl) ?_
        refine lv_iload hx hb dX0_write_11 (lv_at hl 0 rfl) ?_
        have hFc := mA_free (a := a) hS hA hAc
        refine va_calli (va_runSN (As := [.int p0, .int k1]) (rest := []) ⟨hx, hb, hml, hown, hts⟩ (c_X5_isIn l dC dI cI cZ cS cC cJ a w1 H.size p0 k1 hD hI.self) ⟨va_cnB 2 hts (gI (fun w h => List.mem_cons_of_mem _ h) kw_t1_213) rfl rfl rfl hN.2.2 (hts _ (List.mem_cons_of_mem _ kw_t1_1)) (by decide +kernel) ⟨Nat.le_of_ble_eq_true rfl, Nat.le_of_ble_eq_true rfl⟩, (hts _ (List.mem_cons_of_mem _ kw_t1_212)), trivial⟩ ⟨fun av U g mk q => by obtain ⟨q0, q1, qP, qK, qN⟩ := q; exact ⟨q0, q1, qP, va_K.moved (u := U) (U := U.calling g mk av) (Vm.Alike.refl U.vm) qK, mN_same qN⟩, fun U hU hW => ⟨rfl, by rw [hU], by rw [hU]; exact hP, va_K.moved hW.alike hK, mN_warm hW hN⟩⟩ rfl rfl hl.1 rfl (lv_room (Nat.le_of_ble_eq_true rfl)) dX0_write_13 ⟨Nat.le_of_ble_eq_true rfl, Nat.le_of_ble_eq_true rfl⟩) hS (fun q _ h => hFc q h) hFc (fun r_5 _ t H locs ht hvm hw_5 hP _ _ hS => ?_)
        have hP := kt_heap2 ht hP
        clear ht hFc
        have hP : va_P (dC, dI) vwCl (mW cI cZ cS cC cJ a w1) H := hP
        refine lv_if_eq (tgt := 39) hx hb dX0_write_16 (by decide) (fun c_6 => ?_) (fun c_6 => ?_)
        · obtain ⟨t_7, et_7⟩ : ∃ y : Int32, y = k1 + 1 := ⟨_, rfl⟩
          refine lv_iinc (v := t_7) (lv' := [(4, .int t_7), (0, .ref (a (9 + 3 * i))), (1, .int p0), (2, .int p1), (3, .ref (a 5))]) hx hb dX0_write_39 hl (k := 0) rfl (by rw [et_7]; rfl) (by decide) rfl (fun ls hl => ?_)
          refine lv_goto (tgt := 3) hx hb dX0_write_42 (by decide) ?_
          have hi_8 : i1 < 16 := kt_lt (N := 16) rfl (by decide) ek1 hi1 c_1
          exact ih1 (i1 + 1) t_7 w1 _ _ _ (by omega) (by omega) (by rw [et_7, ek1]; exact nI_1 i1) hP hS (lv_sub hl [0, 1, 2, 3, 4] rfl) hI
        · refine lv_aload_n hx hb dX0_write_19 rfl (lv_at hl 1 rfl) ?_
          refine va_get (D := (dC, dI)) (ci := 0) (v := .ref (a (11 + 3 * i))) (C := RX0) (T := TX0) (N := 9) hx hb hts (fun w h => List.mem_cons_of_mem _ (inWX0 w h)) hown hK hP (9 + 3 * i) (at_C hi) rfl 1 (by decide) (hts _ (List.mem_cons_of_mem _ kw_t1_126)) (fun _ h9 => h9) rfl dX0_write_20 ?_
          refine lv_iload hx hb dX0_write_23 (lv_at hl 0 rfl) ?_
          refine lv_iload_n hx hb dX0_write_25 rfl (lv_at hl 3 rfl) ?_
          refine lv_iconst (v := 1) hx hb dX0_write_26 (by decide) ?_
          refine lv_aload_n hx hb dX0_write_27 rfl (lv_at hl 4 rfl) ?_
          refine va_get (D := (dC, dI)) (ci := 2) (v := .ref (a 6)) (C := RX2) (T := TX2) (N := 2) hx hb hts (fun w h => List.mem_cons_of_mem _ (inWX2 w h)) hown hK hP 5 at_5 rfl 0 (by decide) (hts _ (List.mem_cons_of_mem _ kw_t1_46)) (fun _ h9 => h9) rfl dX0_write_28 ?_
          refine lv_iload hx hb dX0_write_31 (lv_at hl 0 rfl) ?_
          have hi_9 : i1 < 16 := kt_lt (N := 16) rfl (by decide) ek1 hi1 c_1
          refine va_iald hx hb hK hP 6 0 at_6 rfl (kt_inN ek1 (by omega) (by decide)) dX0_write_33 ?_
          refine lv_topi (fun t_10 et_10 => ?_)
          refine va_mmax hx hb (hml.trans hl.1.symm) hown (hts _ (List.mem_cons_of_mem _ kw_t2_39)) (hts _ (List.mem_cons_of_mem _ kw_t2_40)) (hts _ (List.mem_cons_of_mem _ kw_t1_8)) (hts _ (List.mem_cons_of_mem _ kw_t2_41)) (Nat.le_of_ble_eq_true rfl) (Nat.le_of_ble_eq_true rfl) (Nat.zero_le _) (Nat.zero_le _) dX0_write_34 ?_
          refine lv_topi (fun t_11 et_11 => ?_)
          refine lv_iadd hx hb dX0_write_37 ?_
          refine lv_topi (fun t_12 et_12 => ?_)
          refine va_iast hx hb hK hP (mD_of hD hAc) hS (11 + 3 * i) 0 (at_R hi) rfl (kt_inN ek1 (by omega) (by decide)) dX0_write_38 (fun H locs hP _ hS => ?_)
          obtain ⟨v_13, ev_13⟩ : ∃ z, z = mU w1 (11 + 3 * i) (upd (w1 (11 + 3 * i)) ((k1 : Int32).toNatClampNeg) t_12) := ⟨_, rfl⟩
          have hP : va_P (dC, dI) vwCl (mW cI cZ cS cC cJ a v_13) H := by rw [ev_13]; exact mW_put hP (by omega) (gE_R hi _).symm
          have hI := hI.put ev_13 (by omega)
          obtain ⟨t_14, et_14⟩ : ∃ y : Int32, y = k1 + 1 := ⟨_, rfl⟩
          refine lv_iinc (v := t_14) (lv' := [(4, .int t_14), (0, .ref (a (9 + 3 * i))), (1, .int p0), (2, .int p1), (3, .ref (a 5))]) hx hb dX0_write_39 hl (k := 0) rfl (by rw [et_14]; rfl) (by decide) rfl (fun ls hl => ?_)
          refine lv_goto (tgt := 3) hx hb dX0_write_42 (by decide) ?_
          exact ih1 (i1 + 1) t_14 v_13 _ _ _ (by omega) (by omega) (by rw [et_14, ek1]; exact nI_1 i1) hP hS (lv_sub hl [0, 1, 2, 3, 4] rfl) hI
  exact key1 (16 + 1) 0 0 v _ _ _ (Nat.zero_le _) (by omega) rfl hP hS (lv_sub hl [0, 1, 2, 3, 4] rfl) hI

set_option maxHeartbeats 4000000 in
set_option maxRecDepth 100000 in
theorem c_X0_takeLetters (l : Launch) (dC : Nat → ClassId) (dI : Nat → Nat → Nat) (cI cZ cS cC cJ : ClassId) (a : Nat → Nat) (v : Nat → Nat → Int32) (sz : Nat) (i : Nat) (hi : i < 12) (p0 : Int32) (hD : mDD a) (hI : kI v v) : Met l yX0_takeLetters (Cond.code yX0_takeLetters cX0_takeLetters 4 none :: WW) ({ frames := 1, cells := 0, slots := 0, locals := 30 }) (va_Pc [.ref (a (9 + 3 * i)), .int p0, .ref (a 5)] (fun U => U.heap.size = sz ∧ va_P (dC, dI) vwCl (mW cI cZ cS cC cJ a v) U.heap ∧ va_K (dC, dI) vwCl [(cI, .int), (cZ, .boolean), (cS, .object RX3), (cC, .object RX0), (cJ, .long)] U ∧ mN U)) (va_Qv (fun (u : Nat → Nat → Int32) => kI v u) (fun (u : Nat → Nat → Int32) (t : State) => va_P (dC, dI) vwCl (mW cI cZ cS cC cJ a u) t.heap) (mA a sz)) 0 0 (mA a sz) := by
  refine Met.ofW (cc := cX0_takeLetters) (maxL := 4) (ret := none) (by decide) rfl ?_
  intro p e s m args below meth c s₁ B hml hv
  obtain ⟨rfl, hsz, hP, hK, hN⟩ := hv
  have hx := B.exec
  have hb := B.bytes
  have hr := B.returns
  have hts := atoms_spec (ws := Cond.code yX0_takeLetters cX0_takeLetters 4 none :: WW) B.pre
  have hown : s.vm.findClass RX0 = some m.cls := findClass_of_methodNamed B.named
  have hlocks := B.notSynchronized
  subst hsz
  have hAc : ∀ c, c < 81 → mA a s.heap.size (a c) := fun c h => Or.inl ⟨c, h, rfl⟩
  have hA : ∀ q : Nat, s.heap.size ≤ q → mA a s.heap.size q := fun q h => Or.inr h
  generalize hAe : mA a s.heap.size = A at hAc hA ⊢
  have hS : va_S A s.heap s.heap [] := va_S.rf
  have hl := lv_entry ([.ref (a (9 + 3 * i)), .int p0, .ref (a 5)]) (n := 4) (Nat.le_of_ble_eq_true rfl)
  rw [lg_entry_eq]
  generalize (lg_sl ([.ref (a (9 + 3 * i)), .int p0, .ref (a 5)]) ++ List.replicate (4 - (lg_sl ([.ref (a (9 + 3 * i)), .int p0, .ref (a 5)])).length) Slot.unset).toArray = ls at hl ⊢
  have hl : lv_has ls 4 [(0, .ref (a (9 + 3 * i))), (1, .int p0), (2, .ref (a 5))] := hl
  refine kt_absQ (fun Q hQ9 => ?_)
  refine lv_iconst (v := 0) hx hb dX0_takeLetters_0 (by decide) ?_
  refine lv_istore_n (lv' := [(3, .int 0), (0, .ref (a (9 + 3 * i))), (1, .int p0), (2, .ref (a 5))]) hx hb dX0_takeLetters_1 rfl hl (by decide) rfl (fun ls hl => ?_)
  have key1 : ∀ (n i1 : Nat) (k1 : Int32) (w1 : Nat → Nat → Int32) (H : Heap) (locs : List Loc) (ls : Array Slot), i1 ≤ 16 → 16 - i1 < n → k1 = nI i1 → va_P (dC, dI) vwCl (mW cI cZ cS cC cJ a w1) H → va_S A s.heap H locs → lv_has ls 4 [(3, .int k1), (0, .ref (a (9 + 3 * i))), (1, .int p0), (2, .ref (a 5))] → kI v w1 → W p l e (headSpec (Cond.code yX0_takeLetters cX0_takeLetters 4 none :: WW) ({ frames := 1, cells := 0, slots := 0, locals := 30 })).room s m ([.ref (a (9 + 3 * i)), .int p0, .ref (a 5)] : List Value).toArray below meth c H locs 0 0 Q (F0 m 2 ls []) := by
    intro n
    induction n with
    | zero => intro i k w1 H locs ls h1 h2; exact absurd h2 (by omega)
    | succ n ih1 =>
      intro i1 k1 w1 H locs ls hi1 hin1 ek1 hP hS hl hI
      refine lv_iload_n hx hb dX0_takeLetters_2 rfl (lv_at hl 0 rfl) ?_
      refine lv_bipush (v := 16) hx hb dX0_takeLetters_3 (by decide) ?_
      refine lv_icmp_ge (tgt := 69) hx hb dX0_takeLetters_5 (by decide) (fun c_1 => ?_) (fun c_1 => ?_)
      · rw [hQ9]
        exact W.vret hx hb hr (fun t ht hW => ⟨⟨w1, rfl, hI, kt_heap ht hP⟩, hS.F ht⟩) hS.2.2 dX0_takeLetters_69
      · refine lv_aload_n hx hb dX0_takeLetters_8 rfl (lv_at hl 1 rfl) ?_
        refine va_get (D := (dC, dI)) (ci := 0) (v := .int (w1 (9 + 3 * i) 2)) (C := RX0) (T := TX0) (N := 9) hx hb hts (fun w h => List.mem_cons_of_mem _ (inWX0 w h)) hown hK hP (9 + 3 * i) (at_C hi) rfl 2 (by decide) (hts _ (List.mem_cons_of_mem _ kw_t1_127)) (fun _ h9 => h9) rfl dX0_takeLetters_9 ?_
        refine lv_topi (fun t_2 et_2 => ?_)
        refine lv_if_eq (tgt := 69) hx hb dX0_takeLetters_12 (by decide) (fun c_3 => ?_) (fun c_3 => ?_)
        · rw [hQ9]
          exact W.vret hx hb hr (fun t ht hW => ⟨⟨w1, rfl, hI, kt_heap ht hP⟩, hS.F ht⟩) hS.2.2 dX0_takeLetters_69
        · refine lv_aload_n hx hb dX0_takeLetters_15 rfl (lv_at hl 1 rfl) ?_
          refine va_get (D := (dC, dI)) (ci := 0) (v := .int (w1 (9 + 3 * i) 2)) (C := RX0) (T := TX0) (N := 9) hx hb hts (fun w h => List.mem_cons_of_mem _ (inWX0 w h)) hown hK hP (9 + 3 * i) (at_C hi) rfl 2 (by decide) (hts _ (List.mem_cons_of_mem _ kw_t1_127)) (fun _ h9 => h9) rfl dX0_takeLetters_16 ?_
          refine lv_topi (fun t_4 et_4 => ?_)
          obtain rfl : t_2 = t_4 := et_2.trans et_4.symm
          refine lv_iload_n hx hb dX0_takeLetters_19 rfl (lv_at hl 0 rfl) ?_
          have hFc := mA_free (a := a) hS hA hAc
          refine va_calli (va_runSN (As := [.int t_2, .int k1]) (rest := []) ⟨hx, hb, hml, hown, hts⟩ (c_X5_isIn l dC dI cI cZ cS cC cJ a w1 H.size t_2 k1 hD hI.self) ⟨va_cnB 2 hts (gI (fun w h => List.mem_cons_of_mem _ h) kw_t1_213) rfl rfl rfl hN.2.2 (hts _ (List.mem_cons_of_mem _ kw_t1_1)) (by decide +kernel) ⟨Nat.le_of_ble_eq_true rfl, Nat.le_of_ble_eq_true rfl⟩, (hts _ (List.mem_cons_of_mem _ kw_t1_212)), trivial⟩ ⟨fun av U g mk q => by obtain ⟨q0, q1, qP, qK, qN⟩ := q; exact ⟨q0, q1, qP, va_K.moved (u := U) (U := U.calling g mk av) (Vm.Alike.refl U.vm) qK, mN_same qN⟩, fun U hU hW => ⟨rfl, by rw [hU], by rw [hU]; exact hP, va_K.moved hW.alike hK, mN_warm hW hN⟩⟩ rfl rfl hl.1 rfl (lv_room (Nat.le_of_ble_eq_true rfl)) dX0_takeLetters_20 ⟨Nat.le_of_ble_eq_true rfl, Nat.le_of_ble_eq_true rfl⟩) hS (fun q _ h => hFc q h) hFc (fun r_5 _ t H locs ht hvm hw_5 hP _ _ hS => ?_)
          have hP := kt_heap2 ht hP
          clear ht hFc
          have hP : va_P (dC, dI) vwCl (mW cI cZ cS cC cJ a w1) H := hP
          refine lv_if_eq (tgt := 63) hx hb dX0_takeLetters_23 (by decide) (fun c_6 => ?_) (fun c_6 => ?_)
          · obtain ⟨t_7, et_7⟩ : ∃ y : Int32, y = k1 + 1 := ⟨_, rfl⟩
            refine lv_iinc (v := t_7) (lv' := [(3, .int t_7), (0, .ref (a (9 + 3 * i))), (1, .int p0), (2, .ref (a 5))]) hx hb dX0_takeLetters_63 hl (k := 0) rfl (by rw [et_7]; rfl) (by decide) rfl (fun ls hl => ?_)
            refine lv_goto (tgt := 2) hx hb dX0_takeLetters_66 (by decide) ?_
            have hi_8 : i1 < 16 := kt_lt (N := 16) rfl (by decide) ek1 hi1 c_1
            exact ih1 (i1 + 1) t_7 w1 _ _ _ (by omega) (by omega) (by rw [et_7, ek1]; exact nI_1 i1) hP hS (lv_sub hl [0, 1, 2, 3] rfl) hI
          · refine lv_aload_n hx hb dX0_takeLetters_26 rfl (lv_at hl 1 rfl) ?_
            refine va_get (D := (dC, dI)) (ci := 0) (v := .ref (a (11 + 3 * i))) (C := RX0) (T := TX0) (N := 9) hx hb hts (fun w h => List.mem_cons_of_mem _ (inWX0 w h)) hown hK hP (9 + 3 * i) (at_C hi) rfl 1 (by decide) (hts _ (List.mem_cons_of_mem _ kw_t1_126)) (fun _ h9 => h9) rfl dX0_takeLetters_27 ?_
            refine lv_iload_n hx hb dX0_takeLetters_30 rfl (lv_at hl 0 rfl) ?_
            have hi_9 : i1 < 16 := kt_lt (N := 16) rfl (by decide) ek1 hi1 c_1
            refine va_iald hx hb hK hP (11 + 3 * i) 0 (at_R hi) rfl (kt_inN ek1 (by omega) (by decide)) dX0_takeLetters_31 ?_
            refine lv_topi (fun t_10 et_10 => ?_)
            refine lv_iload_n hx hb dX0_takeLetters_32 rfl (lv_at hl 2 rfl) ?_
            refine lv_icmp_gt (tgt := 63) hx hb dX0_takeLetters_33 (by decide) (fun c_11 => ?_) (fun c_11 => ?_)
            · obtain ⟨t_12, et_12⟩ : ∃ y : Int32, y = k1 + 1 := ⟨_, rfl⟩
              refine lv_iinc (v := t_12) (lv' := [(3, .int t_12), (0, .ref (a (9 + 3 * i))), (1, .int p0), (2, .ref (a 5))]) hx hb dX0_takeLetters_63 hl (k := 0) rfl (by rw [et_12]; rfl) (by decide) rfl (fun ls hl => ?_)
              refine lv_goto (tgt := 2) hx hb dX0_takeLetters_66 (by decide) ?_
              exact ih1 (i1 + 1) t_12 w1 _ _ _ (by omega) (by omega) (by rw [et_12, ek1]; exact nI_1 i1) hP hS (lv_sub hl [0, 1, 2, 3] rfl) hI
            · refine lv_aload_n hx hb dX0_takeLetters_36 rfl (lv_at hl 3 rfl) ?_
              refine lv_iload_n hx hb dX0_takeLetters_37 rfl (lv_at hl 0 rfl) ?_
              have hFc := mA_free (a := a) hS hA hAc
              refine va_calli (va_runV (As := [.int k1]) (rest := []) ⟨hx, hb, hml, hown, hts⟩ (c_X2_isDown l dC dI cI cZ cS cC cJ a w1 H.size k1 hD hI.self) (cwV 1 hts (gV (fun w h => List.mem_cons_of_mem _ h) kw_t2_67 kw_t1_235 kw_t1_236 kw_t1_3 kw_t1_237) rfl rfl rfl (by decide +kernel) ⟨Nat.le_of_ble_eq_true rfl, Nat.le_of_ble_eq_true rfl⟩) ⟨fun av U g mk q => by obtain ⟨q0, q1, qP, qK, qN⟩ := q; exact ⟨q0, q1, qP, va_K.moved (u := U) (U := U.calling g mk av) (Vm.Alike.refl U.vm) qK, mN_same qN⟩, va_recv hK hP (ci := 2) (q0 := 5) rfl at_5, fun U hU hW => ⟨rfl, by rw [hU], by rw [hU]; exact hP, va_K.moved hW.alike hK, mN_warm hW hN⟩⟩ rfl rfl hl.1 rfl (lv_room (Nat.le_of_ble_eq_true rfl)) dX0_takeLetters_38 ⟨Nat.le_of_ble_eq_true rfl, Nat.le_of_ble_eq_true rfl⟩) hS (fun q _ h => hFc q h) hFc (fun r_13 _ t H locs ht hvm hw_13 hP _ _ hS => ?_)
              have hP := kt_heap2 ht hP
              clear ht hFc
              have hP : va_P (dC, dI) vwCl (mW cI cZ cS cC cJ a w1) H := hP
              refine lv_if_ne (tgt := 63) hx hb dX0_takeLetters_41 (by decide) (fun c_14 => ?_) (fun c_14 => ?_)
              · obtain ⟨t_15, et_15⟩ : ∃ y : Int32, y = k1 + 1 := ⟨_, rfl⟩
                refine lv_iinc (v := t_15) (lv' := [(3, .int t_15), (0, .ref (a (9 + 3 * i))), (1, .int p0), (2, .ref (a 5))]) hx hb dX0_takeLetters_63 hl (k := 0) rfl (by rw [et_15]; rfl) (by decide) rfl (fun ls hl => ?_)
                refine lv_goto (tgt := 2) hx hb dX0_takeLetters_66 (by decide) ?_
                exact ih1 (i1 + 1) t_15 w1 _ _ _ (by omega) (by omega) (by rw [et_15, ek1]; exact nI_1 i1) hP hS (lv_sub hl [0, 1, 2, 3] rfl) hI
              · refine lv_aload_n hx hb dX0_takeLetters_44 rfl (lv_at hl 1 rfl) ?_
                refine lv_iload_n hx hb dX0_takeLetters_45 rfl (lv_at hl 0 rfl) ?_
                have hFc := mA_free (a := a) hS hA hAc
                refine va_callv (va_runV (As := [.int k1]) (rest := []) ⟨hx, hb, hml, hown, hts⟩ (c_X0_act l dC dI cI cZ cS cC cJ a w1 H.size i hi k1 hD hI.self) (cwV 1 hts (gV (fun w h => List.mem_cons_of_mem _ h) kw_t2_90 kw_t2_91 kw_t2_92 kw_t1_5 kw_t2_93) rfl rfl rfl (by decide +kernel) ⟨Nat.le_of_ble_eq_true rfl, Nat.le_of_ble_eq_true rfl⟩) ⟨fun av U g mk q => by obtain ⟨q0, q1, qP, qK, qN⟩ := q; exact ⟨q0, q1, qP, va_K.moved (u := U) (U := U.calling g mk av) (Vm.Alike.refl U.vm) qK, mN_same qN⟩, va_recv hK hP (ci := 0) (q0 := (9 + 3 * i)) rfl (at_C hi), fun U hU hW => ⟨rfl, by rw [hU], by rw [hU]; exact hP, va_K.moved hW.alike hK, mN_warm hW hN⟩⟩ rfl rfl hl.1 rfl (lv_room (Nat.le_of_ble_eq_true rfl)) dX0_takeLetters_46 ⟨Nat.le_of_ble_eq_true rfl, Nat.le_of_ble_eq_true rfl⟩) hS (fun q _ h => hFc q h) hFc (fun v_16 t H locs ht hvm hw_16 hP _ _ hS => ?_)
                have hP := kt_heap2 ht hP
                clear ht hFc
                have hP : va_P (dC, dI) vwCl (mW cI cZ cS cC cJ a v_16) H := hP
                have hI := hI.trans hw_16
                refine lv_aload_n hx hb dX0_takeLetters_49 rfl (lv_at hl 1 rfl) ?_
                refine lv_dup hx hb dX0_takeLetters_50 rfl ?_
                refine va_get (D := (dC, dI)) (ci := 0) (v := .int (v_16 (9 + 3 * i) 2)) (C := RX0) (T := TX0) (N := 9) hx hb hts (fun w h => List.mem_cons_of_mem _ (inWX0 w h)) hown hK hP (9 + 3 * i) (at_C hi) rfl 2 (by decide) (hts _ (List.mem_cons_of_mem _ kw_t1_127)) (fun _ h9 => h9) rfl dX0_takeLetters_51 ?_
                refine lv_topi (fun t_17 et_17 => ?_)
                refine lv_iconst (v := 1) hx hb dX0_takeLetters_54 (by decide) ?_
                refine lv_iload_n hx hb dX0_takeLetters_55 rfl (lv_at hl 0 rfl) ?_
                refine lv_ishl hx hb dX0_takeLetters_56 ?_
                refine lv_topi (fun t_18 et_18 => ?_)
                refine lv_iconst (v := (-1)) hx hb dX0_takeLetters_57 (by decide) ?_
                refine lv_ixor hx hb dX0_takeLetters_58 ?_
                refine lv_topi (fun t_19 et_19 => ?_)
                refine lv_iand hx hb dX0_takeLetters_59 ?_
                refine lv_topi (fun t_20 et_20 => ?_)
                refine va_put (D := (dC, dI)) (ci := 0) (v := .int t_20) (ty := .int) (C := RX0) (T := TX0) (N := 9) hx hb hts (fun w h => List.mem_cons_of_mem _ (inWX0 w h)) tyX0 tyX0_ok nmX0 hown hK hP (mD_of hD hAc) hS (9 + 3 * i) (at_C hi) rfl 2 (by decide) (hts _ (List.mem_cons_of_mem _ kw_t1_127)) (fun _ h9 => h9) rfl (by decide +kernel) rfl rfl (Nat.le_of_ble_eq_true rfl) dX0_takeLetters_60 (fun H locs hP _ hS => ?_)
                obtain ⟨v_21, ev_21⟩ : ∃ z, z = mU v_16 (9 + 3 * i) (upd (v_16 (9 + 3 * i)) 2 t_20) := ⟨_, rfl⟩
                have hP : va_P (dC, dI) vwCl (mW cI cZ cS cC cJ a v_21) H := by rw [ev_21]; exact mW_put hP (by omega) (by rw [gE_C hi]; rfl)
                have hI := hI.put ev_21 (by omega)
                obtain ⟨t_22, et_22⟩ : ∃ y : Int32, y = k1 + 1 := ⟨_, rfl⟩
                refine lv_iinc (v := t_22) (lv' := [(3, .int t_22), (0, .ref (a (9 + 3 * i))), (1, .int p0), (2, .ref (a 5))]) hx hb dX0_takeLetters_63 hl (k := 0) rfl (by rw [et_22]; rfl) (by decide) rfl (fun ls hl => ?_)
                refine lv_goto (tgt := 2) hx hb dX0_takeLetters_66 (by decide) ?_
                exact ih1 (i1 + 1) t_22 v_21 _ _ _ (by omega) (by omega) (by rw [et_22, ek1]; exact nI_1 i1) hP hS (lv_sub hl [0, 1, 2, 3] rfl) hI
  exact key1 (16 + 1) 0 0 v _ _ _ (Nat.zero_le _) (by omega) rfl hP hS (lv_sub hl [0, 1, 2, 3] rfl) hI

set_option maxHeartbeats 4000000 in
set_option maxRecDepth 100000 in
theorem c_X0_nextLetter (l : Launch) (dC : Nat → ClassId) (dI : Nat → Nat → Nat) (cI cZ cS cC cJ : ClassId) (a : Nat → Nat) (v : Nat → Nat → Int32) (sz : Nat) (i : Nat) (hi : i < 12) (p0 : Int32) (hD : mDD a) (hI : kI v v) : Met l yX0_nextLetter (Cond.code yX0_nextLetter cX0_nextLetter 5 (some .int) :: WW) ({ frames := 1, cells := 0, slots := 0, locals := 30 }) (va_Pc [.ref (a (9 + 3 * i)), .int p0, .ref (a 5)] (fun U => U.heap.size = sz ∧ va_P (dC, dI) vwCl (mW cI cZ cS cC cJ a v) U.heap ∧ va_K (dC, dI) vwCl [(cI, .int), (cZ, .boolean), (cS, .object RX3), (cC, .object RX0), (cJ, .long)] U ∧ mN U)) (va_Qi (fun (r : Int32) (_u : Unit) => True) (fun (_ : Unit) (t : State) => va_P (dC, dI) vwCl (mW cI cZ cS cC cJ a v) t.heap) (mA a sz)) 0 0 (mA a sz) := by
  refine Met.ofW (cc := cX0_nextLetter) (maxL := 5) (ret := (some .int)) (by decide) rfl ?_
  intro p e s m args below meth c s₁ B hml hv
  obtain ⟨rfl, hsz, hP, hK, hN⟩ := hv
  have hx := B.exec
  have hb := B.bytes
  have hr := B.returns
  have hts := atoms_spec (ws := Cond.code yX0_nextLetter cX0_nextLetter 5 (some .int) :: WW) B.pre
  have hown : s.vm.findClass RX0 = some m.cls := findClass_of_methodNamed B.named
  have hlocks := B.notSynchronized
  subst hsz
  have hAc : ∀ c, c < 81 → mA a s.heap.size (a c) := fun c h => Or.inl ⟨c, h, rfl⟩
  have hA : ∀ q : Nat, s.heap.size ≤ q → mA a s.heap.size q := fun q h => Or.inr h
  generalize hAe : mA a s.heap.size = A at hAc hA ⊢
  have hS : va_S A s.heap s.heap [] := va_S.rf
  have hl := lv_entry ([.ref (a (9 + 3 * i)), .int p0, .ref (a 5)]) (n := 5) (Nat.le_of_ble_eq_true rfl)
  rw [lg_entry_eq]
  generalize (lg_sl ([.ref (a (9 + 3 * i)), .int p0, .ref (a 5)]) ++ List.replicate (5 - (lg_sl ([.ref (a (9 + 3 * i)), .int p0, .ref (a 5)])).length) Slot.unset).toArray = ls at hl ⊢
  have hl : lv_has ls 5 [(0, .ref (a (9 + 3 * i))), (1, .int p0), (2, .ref (a 5))] := hl
  refine kt_absQ (fun Q hQ9 => ?_)
  refine lv_iload_n hx hb dX0_nextLetter_0 rfl (lv_at hl 1 rfl) ?_
  refine lv_istore_n (lv' := [(3, .int p0), (0, .ref (a (9 + 3 * i))), (1, .int p0), (2, .ref (a 5))]) hx hb dX0_nextLetter_1 rfl hl (by decide) rfl (fun ls hl => ?_)
  refine lv_iconst (v := 0) hx hb dX0_nextLetter_2 (by decide) ?_
  refine lv_istore (lv' := [(4, .int 0), (3, .int p0), (0, .ref (a (9 + 3 * i))), (1, .int p0), (2, .ref (a 5))]) hx hb dX0_nextLetter_3 hl (by decide) rfl (fun ls hl => ?_)
  have key1 : ∀ (n i1 : Nat) (k1 : Int32) (y1_3 : Int32) (H : Heap) (locs : List Loc) (ls : Array Slot), i1 ≤ 16 → 16 - i1 < n → k1 = nI i1 → va_P (dC, dI) vwCl (mW cI cZ cS cC cJ a v) H → va_S A s.heap H locs → lv_has ls 5 [(4, .int k1), (3, .int y1_3), (0, .ref (a (9 + 3 * i))), (1, .int p0), (2, .ref (a 5))] → W p l e (headSpec (Cond.code yX0_nextLetter cX0_nextLetter 5 (some .int) :: WW) ({ frames := 1, cells := 0, slots := 0, locals := 30 })).room s m ([.ref (a (9 + 3 * i)), .int p0, .ref (a 5)] : List Value).toArray below meth c H locs 0 0 Q (F0 m 5 ls []) := by
    intro n
    induction n with
    | zero => intro i k y1_3 H locs ls h1 h2; exact absurd h2 (by omega)
    | succ n ih1 =>
      intro i1 k1 y1_3 H locs ls hi1 hin1 ek1 hP hS hl
      refine lv_iload hx hb dX0_nextLetter_5 (lv_at hl 0 rfl) ?_
      refine lv_bipush (v := 16) hx hb dX0_nextLetter_7 (by decide) ?_
      refine lv_icmp_ge (tgt := 58) hx hb dX0_nextLetter_9 (by decide) (fun c_1 => ?_) (fun c_1 => ?_)
      · refine lv_iload_n hx hb dX0_nextLetter_58 rfl (lv_at hl 1 rfl) ?_
        rw [hQ9]
        exact W.iret (v := y1_3) hx hb hr (fun t ht hW => ⟨⟨y1_3, (), rfl, trivial, kt_heap ht hP⟩, hS.F ht⟩) hS.2.2 dX0_nextLetter_59
      · refine lv_aload_n hx hb dX0_nextLetter_12 rfl (lv_at hl 2 rfl) ?_
        refine va_get (D := (dC, dI)) (ci := 0) (v := .int (v (9 + 3 * i) 2)) (C := RX0) (T := TX0) (N := 9) hx hb hts (fun w h => List.mem_cons_of_mem _ (inWX0 w h)) hown hK hP (9 + 3 * i) (at_C hi) rfl 2 (by decide) (hts _ (List.mem_cons_of_mem _ kw_t1_127)) (fun _ h9 => h9) rfl dX0_nextLetter_13 ?_
        refine lv_topi (fun t_2 et_2 => ?_)
        refine lv_if_eq (tgt := 58) hx hb dX0_nextLetter_16 (by decide) (fun c_3 => ?_) (fun c_3 => ?_)
        · refine lv_iload_n hx hb dX0_nextLetter_58 rfl (lv_at hl 1 rfl) ?_
          rw [hQ9]
          exact W.iret (v := y1_3) hx hb hr (fun t ht hW => ⟨⟨y1_3, (), rfl, trivial, kt_heap ht hP⟩, hS.F ht⟩) hS.2.2 dX0_nextLetter_59
        · refine lv_aload_n hx hb dX0_nextLetter_19 rfl (lv_at hl 2 rfl) ?_
          refine va_get (D := (dC, dI)) (ci := 0) (v := .int (v (9 + 3 * i) 2)) (C := RX0) (T := TX0) (N := 9) hx hb hts (fun w h => List.mem_cons_of_mem _ (inWX0 w h)) hown hK hP (9 + 3 * i) (at_C hi) rfl 2 (by decide) (hts _ (List.mem_cons_of_mem _ kw_t1_127)) (fun _ h9 => h9) rfl dX0_nextLetter_20 ?_
          refine lv_topi (fun t_4 et_4 => ?_)
          obtain rfl : t_2 = t_4 := et_2.trans et_4.symm
          refine lv_iload hx hb dX0_nextLetter_23 (lv_at hl 0 rfl) ?_
          have hFc := mA_free (a := a) hS hA hAc
          refine va_calli (va_runSN (As := [.int t_2, .int k1]) (rest := []) ⟨hx, hb, hml, hown, hts⟩ (c_X5_isIn l dC dI cI cZ cS cC cJ a v H.size t_2 k1 hD hI.self) ⟨va_cnB 2 hts (gI (fun w h => List.mem_cons_of_mem _ h) kw_t1_213) rfl rfl rfl hN.2.2 (hts _ (List.mem_cons_of_mem _ kw_t1_1)) (by decide +kernel) ⟨Nat.le_of_ble_eq_true rfl, Nat.le_of_ble_eq_true rfl⟩, (hts _ (List.mem_cons_of_mem _ kw_t1_212)), trivial⟩ ⟨fun av U g mk q => by obtain ⟨q0, q1, qP, qK, qN⟩ := q; exact ⟨q0, q1, qP, va_K.moved (u := U) (U := U.calling g mk av) (Vm.Alike.refl U.vm) qK, mN_same qN⟩, fun U hU hW => ⟨rfl, by rw [hU], by rw [hU]; exact hP, va_K.moved hW.alike hK, mN_warm hW hN⟩⟩ rfl rfl hl.1 rfl (lv_room (Nat.le_of_ble_eq_true rfl)) dX0_nextLetter_25 ⟨Nat.le_of_ble_eq_true rfl, Nat.le_of_ble_eq_true rfl⟩) hS (fun q _ h => hFc q h) hFc (fun r_5 _ t H locs ht hvm hw_5 hP _ _ hS => ?_)
          have hP := kt_heap2 ht hP
          clear ht hFc
          have hP : va_P (dC, dI) vwCl (mW cI cZ cS cC cJ a v) H := hP
          refine lv_if_eq (tgt := 52) hx hb dX0_nextLetter_28 (by decide) (fun c_6 => ?_) (fun c_6 => ?_)
          · obtain ⟨t_7, et_7⟩ : ∃ y : Int32, y = k1 + 1 := ⟨_, rfl⟩
            refine lv_iinc (v := t_7) (lv' := [(4, .int t_7), (3, .int y1_3), (0, .ref (a (9 + 3 * i))), (1, .int p0), (2, .ref (a 5))]) hx hb dX0_nextLetter_52 hl (k := 0) rfl (by rw [et_7]; rfl) (by decide) rfl (fun ls hl => ?_)
            refine lv_goto (tgt := 5) hx hb dX0_nextLetter_55 (by decide) ?_
            have hi_8 : i1 < 16 := kt_lt (N := 16) rfl (by decide) ek1 hi1 c_1
            exact ih1 (i1 + 1) t_7 y1_3 _ _ _ (by omega) (by omega) (by rw [et_7, ek1]; exact nI_1 i1) hP hS (lv_sub hl [0, 1, 2, 3, 4] rfl)
          · refine lv_aload_n hx hb dX0_nextLetter_31 rfl (lv_at hl 4 rfl) ?_
            refine lv_iload hx hb dX0_nextLetter_32 (lv_at hl 0 rfl) ?_
            have hFc := mA_free (a := a) hS hA hAc
            refine va_calli (va_runV (As := [.int k1]) (rest := []) ⟨hx, hb, hml, hown, hts⟩ (c_X2_isDown l dC dI cI cZ cS cC cJ a v H.size k1 hD hI.self) (cwV 1 hts (gV (fun w h => List.mem_cons_of_mem _ h) kw_t2_67 kw_t1_235 kw_t1_236 kw_t1_3 kw_t1_237) rfl rfl rfl (by decide +kernel) ⟨Nat.le_of_ble_eq_true rfl, Nat.le_of_ble_eq_true rfl⟩) ⟨fun av U g mk q => by obtain ⟨q0, q1, qP, qK, qN⟩ := q; exact ⟨q0, q1, qP, va_K.moved (u := U) (U := U.calling g mk av) (Vm.Alike.refl U.vm) qK, mN_same qN⟩, va_recv hK hP (ci := 2) (q0 := 5) rfl at_5, fun U hU hW => ⟨rfl, by rw [hU], by rw [hU]; exact hP, va_K.moved hW.alike hK, mN_warm hW hN⟩⟩ rfl rfl hl.1 rfl (lv_room (Nat.le_of_ble_eq_true rfl)) dX0_nextLetter_34 ⟨Nat.le_of_ble_eq_true rfl, Nat.le_of_ble_eq_true rfl⟩) hS (fun q _ h => hFc q h) hFc (fun r_9 _ t H locs ht hvm hw_9 hP _ _ hS => ?_)
            have hP := kt_heap2 ht hP
            clear ht hFc
            have hP : va_P (dC, dI) vwCl (mW cI cZ cS cC cJ a v) H := hP
            refine lv_if_ne (tgt := 52) hx hb dX0_nextLetter_37 (by decide) (fun c_10 => ?_) (fun c_10 => ?_)
            · obtain ⟨t_11, et_11⟩ : ∃ y : Int32, y = k1 + 1 := ⟨_, rfl⟩
              refine lv_iinc (v := t_11) (lv' := [(4, .int t_11), (3, .int y1_3), (0, .ref (a (9 + 3 * i))), (1, .int p0), (2, .ref (a 5))]) hx hb dX0_nextLetter_52 hl (k := 0) rfl (by rw [et_11]; rfl) (by decide) rfl (fun ls hl => ?_)
              refine lv_goto (tgt := 5) hx hb dX0_nextLetter_55 (by decide) ?_
              have hi_12 : i1 < 16 := kt_lt (N := 16) rfl (by decide) ek1 hi1 c_1
              exact ih1 (i1 + 1) t_11 y1_3 _ _ _ (by omega) (by omega) (by rw [et_11, ek1]; exact nI_1 i1) hP hS (lv_sub hl [0, 1, 2, 3, 4] rfl)
            · refine lv_iload_n hx hb dX0_nextLetter_40 rfl (lv_at hl 1 rfl) ?_
              refine lv_aload_n hx hb dX0_nextLetter_41 rfl (lv_at hl 2 rfl) ?_
              refine va_get (D := (dC, dI)) (ci := 0) (v := .ref (a (11 + 3 * i))) (C := RX0) (T := TX0) (N := 9) hx hb hts (fun w h => List.mem_cons_of_mem _ (inWX0 w h)) hown hK hP (9 + 3 * i) (at_C hi) rfl 1 (by decide) (hts _ (List.mem_cons_of_mem _ kw_t1_126)) (fun _ h9 => h9) rfl dX0_nextLetter_42 ?_
              refine lv_iload hx hb dX0_nextLetter_45 (lv_at hl 0 rfl) ?_
              have hi_13 : i1 < 16 := kt_lt (N := 16) rfl (by decide) ek1 hi1 c_1
              refine va_iald hx hb hK hP (11 + 3 * i) 0 (at_R hi) rfl (kt_inN ek1 (by omega) (by decide)) dX0_nextLetter_47 ?_
              refine lv_topi (fun t_14 et_14 => ?_)
              refine va_mmin hx hb (hml.trans hl.1.symm) hown (hts _ (List.mem_cons_of_mem _ kw_t2_68)) (hts _ (List.mem_cons_of_mem _ kw_t2_69)) (hts _ (List.mem_cons_of_mem _ kw_t1_8)) (hts _ (List.mem_cons_of_mem _ kw_t2_70)) (Nat.le_of_ble_eq_true rfl) (Nat.le_of_ble_eq_true rfl) (Nat.zero_le _) (Nat.zero_le _) dX0_nextLetter_48 ?_
              refine lv_topi (fun t_15 et_15 => ?_)
              refine lv_istore_n (lv' := [(3, .int t_15), (4, .int k1), (0, .ref (a (9 + 3 * i))), (1, .int p0), (2, .ref (a 5))]) hx hb dX0_nextLetter_51 rfl hl (by decide) rfl (fun ls hl => ?_)
              obtain ⟨t_16, et_16⟩ : ∃ y : Int32, y = k1 + 1 := ⟨_, rfl⟩
              refine lv_iinc (v := t_16) (lv' := [(4, .int t_16), (3, .int t_15), (0, .ref (a (9 + 3 * i))), (1, .int p0), (2, .ref (a 5))]) hx hb dX0_nextLetter_52 hl (k := 1) rfl (by rw [et_16]; rfl) (by decide) rfl (fun ls hl => ?_)
              refine lv_goto (tgt := 5) hx hb dX0_nextLetter_55 (by decide) ?_
              exact ih1 (i1 + 1) t_16 t_15 _ _ _ (by omega) (by omega) (by rw [et_16, ek1]; exact nI_1 i1) hP hS (lv_sub hl [0, 1, 2, 3, 4] rfl)
  exact key1 (16 + 1) 0 0 p0 _ _ _ (Nat.zero_le _) (by omega) rfl hP hS (lv_sub hl [0, 1, 2, 3, 4] rfl)

set_option maxHeartbeats 4000000 in
set_option maxRecDepth 100000 in
theorem c_X0_beginStep (l : Launch) (dC : Nat → ClassId) (dI : Nat → Nat → Nat) (cI cZ cS cC cJ : ClassId) (a : Nat → Nat) (v : Nat → Nat → Int32) (sz : Nat) (i : Nat) (hi : i < 12) (p0 p1 : Int32) (hD : mDD a) (hI : kI v v) : Met l yX0_beginStep (Cond.code yX0_beginStep cX0_beginStep 4 none :: WW) ({ frames := 2, cells := 0, slots := 0, locals := 60 }) (va_Pc [.ref (a (9 + 3 * i)), .int p0, .int p1, .ref (a 5)] (fun U => U.heap.size = sz ∧ va_P (dC, dI) vwCl (mW cI cZ cS cC cJ a v) U.heap ∧ va_K (dC, dI) vwCl [(cI, .int), (cZ, .boolean), (cS, .object RX3), (cC, .object RX0), (cJ, .long)] U ∧ mN U)) (va_Qv (fun (u : Nat → Nat → Int32) => kI v u) (fun (u : Nat → Nat → Int32) (t : State) => va_P (dC, dI) vwCl (mW cI cZ cS cC cJ a u) t.heap) (mA a sz)) 0 0 (mA a sz) := by
  refine Met.ofW (cc := cX0_beginStep) (maxL := 4) (ret := none) (by decide) rfl ?_
  intro p e s m args below meth c s₁ B hml hv
  obtain ⟨rfl, hsz, hP, hK, hN⟩ := hv
  have hx := B.exec
  have hb := B.bytes
  have hr := B.returns
  have hts := atoms_spec (ws := Cond.code yX0_beginStep cX0_beginStep 4 none :: WW) B.pre
  have hown : s.vm.findClass RX0 = some m.cls := findClass_of_methodNamed B.named
  have hlocks := B.notSynchronized
  subst hsz
  have hAc : ∀ c, c < 81 → mA a s.heap.size (a c) := fun c h => Or.inl ⟨c, h, rfl⟩
  have hA : ∀ q : Nat, s.heap.size ≤ q → mA a s.heap.size q := fun q h => Or.inr h
  generalize hAe : mA a s.heap.size = A at hAc hA ⊢
  have hS : va_S A s.heap s.heap [] := va_S.rf
  have hl := lv_entry ([.ref (a (9 + 3 * i)), .int p0, .int p1, .ref (a 5)]) (n := 4) (Nat.le_of_ble_eq_true rfl)
  rw [lg_entry_eq]
  generalize (lg_sl ([.ref (a (9 + 3 * i)), .int p0, .int p1, .ref (a 5)]) ++ List.replicate (4 - (lg_sl ([.ref (a (9 + 3 * i)), .int p0, .int p1, .ref (a 5)])).length) Slot.unset).toArray = ls at hl ⊢
  have hl : lv_has ls 4 [(0, .ref (a (9 + 3 * i))), (1, .int p0), (2, .int p1), (3, .ref (a 5))] := hl
  refine lv_aload_n hx hb dX0_beginStep_0 rfl (lv_at hl 0 rfl) ?_
  refine lv_iload_n hx hb dX0_beginStep_1 rfl (lv_at hl 1 rfl) ?_
  refine va_put (D := (dC, dI)) (ci := 0) (v := .int p0) (ty := .int) (C := RX0) (T := TX0) (N := 9) hx hb hts (fun w h => List.mem_cons_of_mem _ (inWX0 w h)) tyX0 tyX0_ok nmX0 hown hK hP (mD_of hD hAc) hS (9 + 3 * i) (at_C hi) rfl 4 (by decide) (hts _ (List.mem_cons_of_mem _ kw_t1_130)) (fun _ h9 => h9) rfl (by decide +kernel) rfl rfl (Nat.le_of_ble_eq_true rfl) dX0_beginStep_2 (fun H locs hP _ hS => ?_)
  obtain ⟨v_1, ev_1⟩ : ∃ z, z = mU v (9 + 3 * i) (upd (v (9 + 3 * i)) 4 p0) := ⟨_, rfl⟩
  have hP : va_P (dC, dI) vwCl (mW cI cZ cS cC cJ a v_1) H := by rw [ev_1]; exact mW_put hP (by omega) (by rw [gE_C hi]; rfl)
  have hI := hI.put ev_1 (by omega)
  refine lv_aload_n hx hb dX0_beginStep_5 rfl (lv_at hl 0 rfl) ?_
  refine lv_iload_n hx hb dX0_beginStep_6 rfl (lv_at hl 2 rfl) ?_
  refine va_put (D := (dC, dI)) (ci := 0) (v := .int p1) (ty := .int) (C := RX0) (T := TX0) (N := 9) hx hb hts (fun w h => List.mem_cons_of_mem _ (inWX0 w h)) tyX0 tyX0_ok nmX0 hown hK hP (mD_of hD hAc) hS (9 + 3 * i) (at_C hi) rfl 5 (by decide) (hts _ (List.mem_cons_of_mem _ kw_t1_132)) (fun _ h9 => h9) rfl (by decide +kernel) rfl rfl (Nat.le_of_ble_eq_true rfl) dX0_beginStep_7 (fun H locs hP _ hS => ?_)
  obtain ⟨v_2, ev_2⟩ : ∃ z, z = mU v_1 (9 + 3 * i) (upd (v_1 (9 + 3 * i)) 5 p1) := ⟨_, rfl⟩
  have hP : va_P (dC, dI) vwCl (mW cI cZ cS cC cJ a v_2) H := by rw [ev_2]; exact mW_put hP (by omega) (by rw [gE_C hi]; rfl)
  have hI := hI.put ev_2 (by omega)
  refine lv_aload_n hx hb dX0_beginStep_10 rfl (lv_at hl 0 rfl) ?_
  refine lv_iload_n hx hb dX0_beginStep_11 rfl (lv_at hl 2 rfl) ?_
  refine va_put (D := (dC, dI)) (ci := 0) (v := .int p1) (ty := .int) (C := RX0) (T := TX0) (N := 9) hx hb hts (fun w h => List.mem_cons_of_mem _ (inWX0 w h)) tyX0 tyX0_ok nmX0 hown hK hP (mD_of hD hAc) hS (9 + 3 * i) (at_C hi) rfl 7 (by decide) (hts _ (List.mem_cons_of_mem _ kw_t1_136)) (fun _ h9 => h9) rfl (by decide +kernel) rfl rfl (Nat.le_of_ble_eq_true rfl) dX0_beginStep_12 (fun H locs hP _ hS => ?_)
  obtain ⟨v_3, ev_3⟩ : ∃ z, z = mU v_2 (9 + 3 * i) (upd (v_2 (9 + 3 * i)) 7 p1) := ⟨_, rfl⟩
  have hP : va_P (dC, dI) vwCl (mW cI cZ cS cC cJ a v_3) H := by rw [ev_3]; exact mW_put hP (by omega) (by rw [gE_C hi]; rfl)
  have hI := hI.put ev_3 (by omega)
  refine lv_aload_n hx hb dX0_beginStep_15 rfl (lv_at hl 0 rfl) ?_
  refine lv_iconst (v := 0) hx hb dX0_beginStep_16 (by decide) ?_
  refine va_put (D := (dC, dI)) (ci := 0) (v := .int 0) (ty := .int) (C := RX0) (T := TX0) (N := 9) hx hb hts (fun w h => List.mem_cons_of_mem _ (inWX0 w h)) tyX0 tyX0_ok nmX0 hown hK hP (mD_of hD hAc) hS (9 + 3 * i) (at_C hi) rfl 6 (by decide) (hts _ (List.mem_cons_of_mem _ kw_t1_134)) (fun _ h9 => h9) rfl (by decide +kernel) rfl rfl (Nat.le_of_ble_eq_true rfl) dX0_beginStep_17 (fun H locs hP _ hS => ?_)
  obtain ⟨v_4, ev_4⟩ : ∃ z, z = mU v_3 (9 + 3 * i) (upd (v_3 (9 + 3 * i)) 6 0) := ⟨_, rfl⟩
  have hP : va_P (dC, dI) vwCl (mW cI cZ cS cC cJ a v_4) H := by rw [ev_4]; exact mW_put hP (by omega) (by rw [gE_C hi]; rfl)
  have hI := hI.put ev_4 (by omega)
  refine lv_iload_n hx hb dX0_beginStep_20 rfl (lv_at hl 1 rfl) ?_
  refine lv_iconst (v := 2) hx hb dX0_beginStep_21 (by decide) ?_
  refine lv_icmp_ne (tgt := 41) hx hb dX0_beginStep_22 (by decide) (fun c_5 => ?_) (fun c_5 => ?_)
  · refine lv_iload_n hx hb dX0_beginStep_41 rfl (lv_at hl 1 rfl) ?_
    refine lv_iconst (v := 3) hx hb dX0_beginStep_42 (by decide) ?_
    refine lv_icmp_eq (tgt := 66) hx hb dX0_beginStep_43 (by decide) (fun c_6 => ?_) (fun c_6 => ?_)
    · exact W.vret hx hb hr (fun t ht hW => ⟨⟨v_4, rfl, hI, kt_heap ht hP⟩, hS.F ht⟩) hS.2.2 dX0_beginStep_66
    · refine lv_iload_n hx hb dX0_beginStep_46 rfl (lv_at hl 1 rfl) ?_
      refine lv_if_eq (tgt := 66) hx hb dX0_beginStep_47 (by decide) (fun c_7 => ?_) (fun c_7 => ?_)
      · exact W.vret hx hb hr (fun t ht hW => ⟨⟨v_4, rfl, hI, kt_heap ht hP⟩, hS.F ht⟩) hS.2.2 dX0_beginStep_66
      · refine lv_aload_n hx hb dX0_beginStep_50 rfl (lv_at hl 0 rfl) ?_
        refine lv_aload_n hx hb dX0_beginStep_51 rfl (lv_at hl 0 rfl) ?_
        refine va_get (D := (dC, dI)) (ci := 0) (v := .ref (a (10 + 3 * i))) (C := RX0) (T := TX0) (N := 9) hx hb hts (fun w h => List.mem_cons_of_mem _ (inWX0 w h)) hown hK hP (9 + 3 * i) (at_C hi) rfl 0 (by decide) (hts _ (List.mem_cons_of_mem _ kw_t1_124)) (fun _ h9 => h9) rfl dX0_beginStep_52 ?_
        refine va_get (D := (dC, dI)) (ci := 3) (v := .int (v_4 (10 + 3 * i) 2)) (C := RX3) (T := TX3) (N := 10) hx hb hts (fun w h => List.mem_cons_of_mem _ (inWX3 w h)) hown hK hP (10 + 3 * i) (at_S hi) rfl 2 (by decide) (hts _ (List.mem_cons_of_mem _ kw_t1_87)) (fun _ h9 => h9) rfl dX0_beginStep_55 ?_
        refine lv_topi (fun t_8 et_8 => ?_)
        refine lv_bipush (v := 10) hx hb dX0_beginStep_58 (by decide) ?_
        refine lv_ishl hx hb dX0_beginStep_60 ?_
        refine lv_topi (fun t_9 et_9 => ?_)
        refine lv_iload_n hx hb dX0_beginStep_61 rfl (lv_at hl 2 rfl) ?_
        refine lv_aload_n hx hb dX0_beginStep_62 rfl (lv_at hl 3 rfl) ?_
        have hFc := mA_free (a := a) hS hA hAc
        refine va_callv (va_runV (As := [.int t_9, .int p1, .ref (a 5)]) (rest := []) ⟨hx, hb, hml, hown, hts⟩ (c_X0_write l dC dI cI cZ cS cC cJ a v_4 H.size i hi t_9 p1 hD hI.self) (cwV 3 hts (gV (fun w h => List.mem_cons_of_mem _ h) kw_t2_34 kw_t2_35 kw_t2_36 kw_t1_5 kw_t2_37) rfl rfl rfl (by decide +kernel) ⟨Nat.le_of_ble_eq_true rfl, Nat.le_of_ble_eq_true rfl⟩) ⟨fun av U g mk q => by obtain ⟨q0, q1, qP, qK, qN⟩ := q; exact ⟨q0, q1, qP, va_K.moved (u := U) (U := U.calling g mk av) (Vm.Alike.refl U.vm) qK, mN_same qN⟩, va_recv hK hP (ci := 0) (q0 := (9 + 3 * i)) rfl (at_C hi), fun U hU hW => ⟨rfl, by rw [hU], by rw [hU]; exact hP, va_K.moved hW.alike hK, mN_warm hW hN⟩⟩ rfl rfl hl.1 rfl (lv_room (Nat.le_of_ble_eq_true rfl)) dX0_beginStep_63 ⟨Nat.le_of_ble_eq_true rfl, Nat.le_of_ble_eq_true rfl⟩) hS (fun q _ h => hFc q h) hFc (fun v_10 t H locs ht hvm hw_10 hP _ _ hS => ?_)
        have hP := kt_heap2 ht hP
        clear ht hFc
        have hP : va_P (dC, dI) vwCl (mW cI cZ cS cC cJ a v_10) H := hP
        have hI := hI.trans hw_10
        exact W.vret hx hb hr (fun t ht hW => ⟨⟨v_10, rfl, hI, kt_heap ht hP⟩, hS.F ht⟩) hS.2.2 dX0_beginStep_66
  · refine lv_aload_n hx hb dX0_beginStep_25 rfl (lv_at hl 0 rfl) ?_
    refine lv_aload_n hx hb dX0_beginStep_26 rfl (lv_at hl 0 rfl) ?_
    refine va_get (D := (dC, dI)) (ci := 0) (v := .ref (a (10 + 3 * i))) (C := RX0) (T := TX0) (N := 9) hx hb hts (fun w h => List.mem_cons_of_mem _ (inWX0 w h)) hown hK hP (9 + 3 * i) (at_C hi) rfl 0 (by decide) (hts _ (List.mem_cons_of_mem _ kw_t1_124)) (fun _ h9 => h9) rfl dX0_beginStep_27 ?_
    refine va_get (D := (dC, dI)) (ci := 3) (v := .int (v_4 (10 + 3 * i) 1)) (C := RX3) (T := TX3) (N := 10) hx hb hts (fun w h => List.mem_cons_of_mem _ (inWX3 w h)) hown hK hP (10 + 3 * i) (at_S hi) rfl 1 (by decide) (hts _ (List.mem_cons_of_mem _ kw_t1_84)) (fun _ h9 => h9) rfl dX0_beginStep_30 ?_
    refine lv_topi (fun t_11 et_11 => ?_)
    refine lv_iload_n hx hb dX0_beginStep_33 rfl (lv_at hl 2 rfl) ?_
    refine lv_aload_n hx hb dX0_beginStep_34 rfl (lv_at hl 3 rfl) ?_
    have hFc := mA_free (a := a) hS hA hAc
    refine va_callv (va_runV (As := [.int t_11, .int p1, .ref (a 5)]) (rest := []) ⟨hx, hb, hml, hown, hts⟩ (c_X0_write l dC dI cI cZ cS cC cJ a v_4 H.size i hi t_11 p1 hD hI.self) (cwV 3 hts (gV (fun w h => List.mem_cons_of_mem _ h) kw_t2_34 kw_t2_35 kw_t2_36 kw_t1_5 kw_t2_37) rfl rfl rfl (by decide +kernel) ⟨Nat.le_of_ble_eq_true rfl, Nat.le_of_ble_eq_true rfl⟩) ⟨fun av U g mk q => by obtain ⟨q0, q1, qP, qK, qN⟩ := q; exact ⟨q0, q1, qP, va_K.moved (u := U) (U := U.calling g mk av) (Vm.Alike.refl U.vm) qK, mN_same qN⟩, va_recv hK hP (ci := 0) (q0 := (9 + 3 * i)) rfl (at_C hi), fun U hU hW => ⟨rfl, by rw [hU], by rw [hU]; exact hP, va_K.moved hW.alike hK, mN_warm hW hN⟩⟩ rfl rfl hl.1 rfl (lv_room (Nat.le_of_ble_eq_true rfl)) dX0_beginStep_35 ⟨Nat.le_of_ble_eq_true rfl, Nat.le_of_ble_eq_true rfl⟩) hS (fun q _ h => hFc q h) hFc (fun v_12 t H locs ht hvm hw_12 hP _ _ hS => ?_)
    have hP := kt_heap2 ht hP
    clear ht hFc
    have hP : va_P (dC, dI) vwCl (mW cI cZ cS cC cJ a v_12) H := hP
    have hI := hI.trans hw_12
    refine lv_goto (tgt := 66) hx hb dX0_beginStep_38 (by decide) ?_
    exact W.vret hx hb hr (fun t ht hW => ⟨⟨v_12, rfl, hI, kt_heap ht hP⟩, hS.F ht⟩) hS.2.2 dX0_beginStep_66

set_option maxHeartbeats 4000000 in
set_option maxRecDepth 100000 in
theorem c_X0_start (l : Launch) (dC : Nat → ClassId) (dI : Nat → Nat → Nat) (cI cZ cS cC cJ : ClassId) (a : Nat → Nat) (v : Nat → Nat → Int32) (sz : Nat) (i : Nat) (hi : i < 12) (p0 p1 p2 : Int32) (hD : mDD a) (hI : kI v v) : Met l yX0_start (Cond.code yX0_start cX0_start 5 none :: WW) ({ frames := 3, cells := 0, slots := 0, locals := 90 }) (va_Pc [.ref (a (9 + 3 * i)), .int p0, .int p1, .int p2, .ref (a 5)] (fun U => U.heap.size = sz ∧ va_P (dC, dI) vwCl (mW cI cZ cS cC cJ a v) U.heap ∧ va_K (dC, dI) vwCl [(cI, .int), (cZ, .boolean), (cS, .object RX3), (cC, .object RX0), (cJ, .long)] U ∧ mN U)) (va_Qv (fun (u : Nat → Nat → Int32) => kI v u) (fun (u : Nat → Nat → Int32) (t : State) => va_P (dC, dI) vwCl (mW cI cZ cS cC cJ a u) t.heap) (mA a sz)) 0 0 (mA a sz) := by
  refine Met.ofW (cc := cX0_start) (maxL := 5) (ret := none) (by decide) rfl ?_
  intro p e s m args below meth c s₁ B hml hv
  obtain ⟨rfl, hsz, hP, hK, hN⟩ := hv
  have hx := B.exec
  have hb := B.bytes
  have hr := B.returns
  have hts := atoms_spec (ws := Cond.code yX0_start cX0_start 5 none :: WW) B.pre
  have hown : s.vm.findClass RX0 = some m.cls := findClass_of_methodNamed B.named
  have hlocks := B.notSynchronized
  subst hsz
  have hAc : ∀ c, c < 81 → mA a s.heap.size (a c) := fun c h => Or.inl ⟨c, h, rfl⟩
  have hA : ∀ q : Nat, s.heap.size ≤ q → mA a s.heap.size q := fun q h => Or.inr h
  generalize hAe : mA a s.heap.size = A at hAc hA ⊢
  have hS : va_S A s.heap s.heap [] := va_S.rf
  have hl := lv_entry ([.ref (a (9 + 3 * i)), .int p0, .int p1, .int p2, .ref (a 5)]) (n := 5) (Nat.le_of_ble_eq_true rfl)
  rw [lg_entry_eq]
  generalize (lg_sl ([.ref (a (9 + 3 * i)), .int p0, .int p1, .int p2, .ref (a 5)]) ++ List.replicate (5 - (lg_sl ([.ref (a (9 + 3 * i)), .int p0, .int p1, .int p2, .ref (a 5)])).length) Slot.unset).toArray = ls at hl ⊢
  have hl : lv_has ls 5 [(0, .ref (a (9 + 3 * i))), (1, .int p0), (2, .int p1), (3, .int p2), (4, .ref (a 5))] := hl
  refine lv_aload_n hx hb dX0_start_0 rfl (lv_at hl 0 rfl) ?_
  refine lv_iload_n hx hb dX0_start_1 rfl (lv_at hl 1 rfl) ?_
  refine va_put (D := (dC, dI)) (ci := 0) (v := .int p0) (ty := .int) (C := RX0) (T := TX0) (N := 9) hx hb hts (fun w h => List.mem_cons_of_mem _ (inWX0 w h)) tyX0 tyX0_ok nmX0 hown hK hP (mD_of hD hAc) hS (9 + 3 * i) (at_C hi) rfl 3 (by decide) (hts _ (List.mem_cons_of_mem _ kw_t1_128)) (fun _ h9 => h9) rfl (by decide +kernel) rfl rfl (Nat.le_of_ble_eq_true rfl) dX0_start_2 (fun H locs hP _ hS => ?_)
  obtain ⟨v_1, ev_1⟩ : ∃ z, z = mU v (9 + 3 * i) (upd (v (9 + 3 * i)) 3 p0) := ⟨_, rfl⟩
  have hP : va_P (dC, dI) vwCl (mW cI cZ cS cC cJ a v_1) H := by rw [ev_1]; exact mW_put hP (by omega) (by rw [gE_C hi]; rfl)
  have hI := hI.put ev_1 (by omega)
  refine lv_aload_n hx hb dX0_start_5 rfl (lv_at hl 0 rfl) ?_
  refine lv_iload_n hx hb dX0_start_6 rfl (lv_at hl 2 rfl) ?_
  refine lv_if_ne (tgt := 21) hx hb dX0_start_7 (by decide) (fun c_2 => ?_) (fun c_2 => ?_)
  · refine lv_iconst (v := 1) hx hb dX0_start_21 (by decide) ?_
    refine lv_goto (tgt := 26) hx hb dX0_start_22 (by decide) ?_
    refine va_put (D := (dC, dI)) (ci := 0) (v := .int 1) (ty := .boolean) (C := RX0) (T := TX0) (N := 9) hx hb hts (fun w h => List.mem_cons_of_mem _ (inWX0 w h)) tyX0 tyX0_ok nmX0 hown hK hP (mD_of hD hAc) hS (9 + 3 * i) (at_C hi) rfl 8 (by decide) (hts _ (List.mem_cons_of_mem _ kw_t1_137)) (fun _ h9 => h9) rfl (by decide +kernel) rfl rfl (Nat.le_of_ble_eq_true rfl) dX0_start_26 (fun H locs hP _ hS => ?_)
    obtain ⟨v_3, ev_3⟩ : ∃ z, z = mU v_1 (9 + 3 * i) (upd (v_1 (9 + 3 * i)) 8 1) := ⟨_, rfl⟩
    have hP : va_P (dC, dI) vwCl (mW cI cZ cS cC cJ a v_3) H := by rw [ev_3]; exact mW_put hP (by omega) (by rw [gE_C hi]; rfl)
    have hI := hI.put ev_3 (by omega)
    refine lv_aload_n hx hb dX0_start_29 rfl (lv_at hl 0 rfl) ?_
    refine lv_aload_n hx hb dX0_start_30 rfl (lv_at hl 0 rfl) ?_
    refine va_get (D := (dC, dI)) (ci := 0) (v := .ref (a (10 + 3 * i))) (C := RX0) (T := TX0) (N := 9) hx hb hts (fun w h => List.mem_cons_of_mem _ (inWX0 w h)) hown hK hP (9 + 3 * i) (at_C hi) rfl 0 (by decide) (hts _ (List.mem_cons_of_mem _ kw_t1_124)) (fun _ h9 => h9) rfl dX0_start_31 ?_
    refine va_get (D := (dC, dI)) (ci := 3) (v := .int (v_3 (10 + 3 * i) 0)) (C := RX3) (T := TX3) (N := 10) hx hb hts (fun w h => List.mem_cons_of_mem _ (inWX3 w h)) hown hK hP (10 + 3 * i) (at_S hi) rfl 0 (by decide) (hts _ (List.mem_cons_of_mem _ kw_t1_81)) (fun _ h9 => h9) rfl dX0_start_34 ?_
    refine lv_topi (fun t_4 et_4 => ?_)
    refine lv_iconst (v := 1) hx hb dX0_start_37 (by decide) ?_
    refine lv_icmp_ne (tgt := 45) hx hb dX0_start_38 (by decide) (fun c_5 => ?_) (fun c_5 => ?_)
    · refine lv_iconst (v := 1) hx hb dX0_start_45 (by decide) ?_
      refine lv_iload_n hx hb dX0_start_46 rfl (lv_at hl 3 rfl) ?_
      refine lv_aload hx hb dX0_start_47 (lv_at hl 4 rfl) ?_
      have hFc := mA_free (a := a) hS hA hAc
      refine va_callv (va_runV (As := [.int 1, .int p2, .ref (a 5)]) (rest := []) ⟨hx, hb, hml, hown, hts⟩ (c_X0_beginStep l dC dI cI cZ cS cC cJ a v_3 H.size i hi 1 p2 hD hI.self) (cwV 3 hts (gV (fun w h => List.mem_cons_of_mem _ h) kw_t2_30 kw_t2_31 kw_t2_32 kw_t1_5 kw_t2_33) rfl rfl rfl (by decide +kernel) ⟨Nat.le_of_ble_eq_true rfl, Nat.le_of_ble_eq_true rfl⟩) ⟨fun av U g mk q => by obtain ⟨q0, q1, qP, qK, qN⟩ := q; exact ⟨q0, q1, qP, va_K.moved (u := U) (U := U.calling g mk av) (Vm.Alike.refl U.vm) qK, mN_same qN⟩, va_recv hK hP (ci := 0) (q0 := (9 + 3 * i)) rfl (at_C hi), fun U hU hW => ⟨rfl, by rw [hU], by rw [hU]; exact hP, va_K.moved hW.alike hK, mN_warm hW hN⟩⟩ rfl rfl hl.1 rfl (lv_room (Nat.le_of_ble_eq_true rfl)) dX0_start_49 ⟨Nat.le_of_ble_eq_true rfl, Nat.le_of_ble_eq_true rfl⟩) hS (fun q _ h => hFc q h) hFc (fun v_6 t H locs ht hvm hw_6 hP _ _ hS => ?_)
      have hP := kt_heap2 ht hP
      clear ht hFc
      have hP : va_P (dC, dI) vwCl (mW cI cZ cS cC cJ a v_6) H := hP
      have hI := hI.trans hw_6
      exact W.vret hx hb hr (fun t ht hW => ⟨⟨v_6, rfl, hI, kt_heap ht hP⟩, hS.F ht⟩) hS.2.2 dX0_start_52
    · refine lv_iconst (v := 5) hx hb dX0_start_41 (by decide) ?_
      refine lv_goto (tgt := 46) hx hb dX0_start_42 (by decide) ?_
      refine lv_iload_n hx hb dX0_start_46 rfl (lv_at hl 3 rfl) ?_
      refine lv_aload hx hb dX0_start_47 (lv_at hl 4 rfl) ?_
      have hFc := mA_free (a := a) hS hA hAc
      refine va_callv (va_runV (As := [.int 5, .int p2, .ref (a 5)]) (rest := []) ⟨hx, hb, hml, hown, hts⟩ (c_X0_beginStep l dC dI cI cZ cS cC cJ a v_3 H.size i hi 5 p2 hD hI.self) (cwV 3 hts (gV (fun w h => List.mem_cons_of_mem _ h) kw_t2_30 kw_t2_31 kw_t2_32 kw_t1_5 kw_t2_33) rfl rfl rfl (by decide +kernel) ⟨Nat.le_of_ble_eq_true rfl, Nat.le_of_ble_eq_true rfl⟩) ⟨fun av U g mk q => by obtain ⟨q0, q1, qP, qK, qN⟩ := q; exact ⟨q0, q1, qP, va_K.moved (u := U) (U := U.calling g mk av) (Vm.Alike.refl U.vm) qK, mN_same qN⟩, va_recv hK hP (ci := 0) (q0 := (9 + 3 * i)) rfl (at_C hi), fun U hU hW => ⟨rfl, by rw [hU], by rw [hU]; exact hP, va_K.moved hW.alike hK, mN_warm hW hN⟩⟩ rfl rfl hl.1 rfl (lv_room (Nat.le_of_ble_eq_true rfl)) dX0_start_49 ⟨Nat.le_of_ble_eq_true rfl, Nat.le_of_ble_eq_true rfl⟩) hS (fun q _ h => hFc q h) hFc (fun v_7 t H locs ht hvm hw_7 hP _ _ hS => ?_)
      have hP := kt_heap2 ht hP
      clear ht hFc
      have hP : va_P (dC, dI) vwCl (mW cI cZ cS cC cJ a v_7) H := hP
      have hI := hI.trans hw_7
      exact W.vret hx hb hr (fun t ht hW => ⟨⟨v_7, rfl, hI, kt_heap ht hP⟩, hS.F ht⟩) hS.2.2 dX0_start_52
  · refine lv_aload_n hx hb dX0_start_10 rfl (lv_at hl 0 rfl) ?_
    refine va_get (D := (dC, dI)) (ci := 0) (v := .ref (a (10 + 3 * i))) (C := RX0) (T := TX0) (N := 9) hx hb hts (fun w h => List.mem_cons_of_mem _ (inWX0 w h)) hown hK hP (9 + 3 * i) (at_C hi) rfl 0 (by decide) (hts _ (List.mem_cons_of_mem _ kw_t1_124)) (fun _ h9 => h9) rfl dX0_start_11 ?_
    refine va_get (D := (dC, dI)) (ci := 3) (v := .int (v_1 (10 + 3 * i) 0)) (C := RX3) (T := TX3) (N := 10) hx hb hts (fun w h => List.mem_cons_of_mem _ (inWX3 w h)) hown hK hP (10 + 3 * i) (at_S hi) rfl 0 (by decide) (hts _ (List.mem_cons_of_mem _ kw_t1_81)) (fun _ h9 => h9) rfl dX0_start_14 ?_
    refine lv_topi (fun t_8 et_8 => ?_)
    refine lv_iconst (v := 1) hx hb dX0_start_17 (by decide) ?_
    refine lv_icmp_ne (tgt := 25) hx hb dX0_start_18 (by decide) (fun c_9 => ?_) (fun c_9 => ?_)
    · refine lv_iconst (v := 0) hx hb dX0_start_25 (by decide) ?_
      refine va_put (D := (dC, dI)) (ci := 0) (v := .int 0) (ty := .boolean) (C := RX0) (T := TX0) (N := 9) hx hb hts (fun w h => List.mem_cons_of_mem _ (inWX0 w h)) tyX0 tyX0_ok nmX0 hown hK hP (mD_of hD hAc) hS (9 + 3 * i) (at_C hi) rfl 8 (by decide) (hts _ (List.mem_cons_of_mem _ kw_t1_137)) (fun _ h9 => h9) rfl (by decide +kernel) rfl rfl (Nat.le_of_ble_eq_true rfl) dX0_start_26 (fun H locs hP _ hS => ?_)
      obtain ⟨v_10, ev_10⟩ : ∃ z, z = mU v_1 (9 + 3 * i) (upd (v_1 (9 + 3 * i)) 8 0) := ⟨_, rfl⟩
      have hP : va_P (dC, dI) vwCl (mW cI cZ cS cC cJ a v_10) H := by rw [ev_10]; exact mW_put hP (by omega) (by rw [gE_C hi]; rfl)
      have hI := hI.put ev_10 (by omega)
      refine lv_aload_n hx hb dX0_start_29 rfl (lv_at hl 0 rfl) ?_
      refine lv_aload_n hx hb dX0_start_30 rfl (lv_at hl 0 rfl) ?_
      refine va_get (D := (dC, dI)) (ci := 0) (v := .ref (a (10 + 3 * i))) (C := RX0) (T := TX0) (N := 9) hx hb hts (fun w h => List.mem_cons_of_mem _ (inWX0 w h)) hown hK hP (9 + 3 * i) (at_C hi) rfl 0 (by decide) (hts _ (List.mem_cons_of_mem _ kw_t1_124)) (fun _ h9 => h9) rfl dX0_start_31 ?_
      refine va_get (D := (dC, dI)) (ci := 3) (v := .int (v_10 (10 + 3 * i) 0)) (C := RX3) (T := TX3) (N := 10) hx hb hts (fun w h => List.mem_cons_of_mem _ (inWX3 w h)) hown hK hP (10 + 3 * i) (at_S hi) rfl 0 (by decide) (hts _ (List.mem_cons_of_mem _ kw_t1_81)) (fun _ h9 => h9) rfl dX0_start_34 ?_
      refine lv_topi (fun t_11 et_11 => ?_)
      refine lv_iconst (v := 1) hx hb dX0_start_37 (by decide) ?_
      refine lv_icmp_ne (tgt := 45) hx hb dX0_start_38 (by decide) (fun c_12 => ?_) (fun c_12 => ?_)
      · refine lv_iconst (v := 1) hx hb dX0_start_45 (by decide) ?_
        refine lv_iload_n hx hb dX0_start_46 rfl (lv_at hl 3 rfl) ?_
        refine lv_aload hx hb dX0_start_47 (lv_at hl 4 rfl) ?_
        have hFc := mA_free (a := a) hS hA hAc
        refine va_callv (va_runV (As := [.int 1, .int p2, .ref (a 5)]) (rest := []) ⟨hx, hb, hml, hown, hts⟩ (c_X0_beginStep l dC dI cI cZ cS cC cJ a v_10 H.size i hi 1 p2 hD hI.self) (cwV 3 hts (gV (fun w h => List.mem_cons_of_mem _ h) kw_t2_30 kw_t2_31 kw_t2_32 kw_t1_5 kw_t2_33) rfl rfl rfl (by decide +kernel) ⟨Nat.le_of_ble_eq_true rfl, Nat.le_of_ble_eq_true rfl⟩) ⟨fun av U g mk q => by obtain ⟨q0, q1, qP, qK, qN⟩ := q; exact ⟨q0, q1, qP, va_K.moved (u := U) (U := U.calling g mk av) (Vm.Alike.refl U.vm) qK, mN_same qN⟩, va_recv hK hP (ci := 0) (q0 := (9 + 3 * i)) rfl (at_C hi), fun U hU hW => ⟨rfl, by rw [hU], by rw [hU]; exact hP, va_K.moved hW.alike hK, mN_warm hW hN⟩⟩ rfl rfl hl.1 rfl (lv_room (Nat.le_of_ble_eq_true rfl)) dX0_start_49 ⟨Nat.le_of_ble_eq_true rfl, Nat.le_of_ble_eq_true rfl⟩) hS (fun q _ h => hFc q h) hFc (fun v_13 t H locs ht hvm hw_13 hP _ _ hS => ?_)
        have hP := kt_heap2 ht hP
        clear ht hFc
        have hP : va_P (dC, dI) vwCl (mW cI cZ cS cC cJ a v_13) H := hP
        have hI := hI.trans hw_13
        exact W.vret hx hb hr (fun t ht hW => ⟨⟨v_13, rfl, hI, kt_heap ht hP⟩, hS.F ht⟩) hS.2.2 dX0_start_52
      · refine lv_iconst (v := 5) hx hb dX0_start_41 (by decide) ?_
        refine lv_goto (tgt := 46) hx hb dX0_start_42 (by decide) ?_
        refine lv_iload_n hx hb dX0_start_46 rfl (lv_at hl 3 rfl) ?_
        refine lv_aload hx hb dX0_start_47 (lv_at hl 4 rfl) ?_
        have hFc := mA_free (a := a) hS hA hAc
        refine va_callv (va_runV (As := [.int 5, .int p2, .ref (a 5)]) (rest := []) ⟨hx, hb, hml, hown, hts⟩ (c_X0_beginStep l dC dI cI cZ cS cC cJ a v_10 H.size i hi 5 p2 hD hI.self) (cwV 3 hts (gV (fun w h => List.mem_cons_of_mem _ h) kw_t2_30 kw_t2_31 kw_t2_32 kw_t1_5 kw_t2_33) rfl rfl rfl (by decide +kernel) ⟨Nat.le_of_ble_eq_true rfl, Nat.le_of_ble_eq_true rfl⟩) ⟨fun av U g mk q => by obtain ⟨q0, q1, qP, qK, qN⟩ := q; exact ⟨q0, q1, qP, va_K.moved (u := U) (U := U.calling g mk av) (Vm.Alike.refl U.vm) qK, mN_same qN⟩, va_recv hK hP (ci := 0) (q0 := (9 + 3 * i)) rfl (at_C hi), fun U hU hW => ⟨rfl, by rw [hU], by rw [hU]; exact hP, va_K.moved hW.alike hK, mN_warm hW hN⟩⟩ rfl rfl hl.1 rfl (lv_room (Nat.le_of_ble_eq_true rfl)) dX0_start_49 ⟨Nat.le_of_ble_eq_true rfl, Nat.le_of_ble_eq_true rfl⟩) hS (fun q _ h => hFc q h) hFc (fun v_14 t H locs ht hvm hw_14 hP _ _ hS => ?_)
        have hP := kt_heap2 ht hP
        clear ht hFc
        have hP : va_P (dC, dI) vwCl (mW cI cZ cS cC cJ a v_14) H := hP
        have hI := hI.trans hw_14
        exact W.vret hx hb hr (fun t ht hW => ⟨⟨v_14, rfl, hI, kt_heap ht hP⟩, hS.F ht⟩) hS.2.2 dX0_start_52
    · refine lv_iconst (v := 1) hx hb dX0_start_21 (by decide) ?_
      refine lv_goto (tgt := 26) hx hb dX0_start_22 (by decide) ?_
      refine va_put (D := (dC, dI)) (ci := 0) (v := .int 1) (ty := .boolean) (C := RX0) (T := TX0) (N := 9) hx hb hts (fun w h => List.mem_cons_of_mem _ (inWX0 w h)) tyX0 tyX0_ok nmX0 hown hK hP (mD_of hD hAc) hS (9 + 3 * i) (at_C hi) rfl 8 (by decide) (hts _ (List.mem_cons_of_mem _ kw_t1_137)) (fun _ h9 => h9) rfl (by decide +kernel) rfl rfl (Nat.le_of_ble_eq_true rfl) dX0_start_26 (fun H locs hP _ hS => ?_)
      obtain ⟨v_15, ev_15⟩ : ∃ z, z = mU v_1 (9 + 3 * i) (upd (v_1 (9 + 3 * i)) 8 1) := ⟨_, rfl⟩
      have hP : va_P (dC, dI) vwCl (mW cI cZ cS cC cJ a v_15) H := by rw [ev_15]; exact mW_put hP (by omega) (by rw [gE_C hi]; rfl)
      have hI := hI.put ev_15 (by omega)
      refine lv_aload_n hx hb dX0_start_29 rfl (lv_at hl 0 rfl) ?_
      refine lv_aload_n hx hb dX0_start_30 rfl (lv_at hl 0 rfl) ?_
      refine va_get (D := (dC, dI)) (ci := 0) (v := .ref (a (10 + 3 * i))) (C := RX0) (T := TX0) (N := 9) hx hb hts (fun w h => List.mem_cons_of_mem _ (inWX0 w h)) hown hK hP (9 + 3 * i) (at_C hi) rfl 0 (by decide) (hts _ (List.mem_cons_of_mem _ kw_t1_124)) (fun _ h9 => h9) rfl dX0_start_31 ?_
      refine va_get (D := (dC, dI)) (ci := 3) (v := .int (v_15 (10 + 3 * i) 0)) (C := RX3) (T := TX3) (N := 10) hx hb hts (fun w h => List.mem_cons_of_mem _ (inWX3 w h)) hown hK hP (10 + 3 * i) (at_S hi) rfl 0 (by decide) (hts _ (List.mem_cons_of_mem _ kw_t1_81)) (fun _ h9 => h9) rfl dX0_start_34 ?_
      refine lv_topi (fun t_16 et_16 => ?_)
      refine lv_iconst (v := 1) hx hb dX0_start_37 (by decide) ?_
      refine lv_icmp_ne (tgt := 45) hx hb dX0_start_38 (by decide) (fun c_17 => ?_) (fun c_17 => ?_)
      · refine lv_iconst (v := 1) hx hb dX0_start_45 (by decide) ?_
        refine lv_iload_n hx hb dX0_start_46 rfl (lv_at hl 3 rfl) ?_
        refine lv_aload hx hb dX0_start_47 (lv_at hl 4 rfl) ?_
        have hFc := mA_free (a := a) hS hA hAc
        refine va_callv (va_runV (As := [.int 1, .int p2, .ref (a 5)]) (rest := []) ⟨hx, hb, hml, hown, hts⟩ (c_X0_beginStep l dC dI cI cZ cS cC cJ a v_15 H.size i hi 1 p2 hD hI.self) (cwV 3 hts (gV (fun w h => List.mem_cons_of_mem _ h) kw_t2_30 kw_t2_31 kw_t2_32 kw_t1_5 kw_t2_33) rfl rfl rfl (by decide +kernel) ⟨Nat.le_of_ble_eq_true rfl, Nat.le_of_ble_eq_true rfl⟩) ⟨fun av U g mk q => by obtain ⟨q0, q1, qP, qK, qN⟩ := q; exact ⟨q0, q1, qP, va_K.moved (u := U) (U := U.calling g mk av) (Vm.Alike.refl U.vm) qK, mN_same qN⟩, va_recv hK hP (ci := 0) (q0 := (9 + 3 * i)) rfl (at_C hi), fun U hU hW => ⟨rfl, by rw [hU], by rw [hU]; exact hP, va_K.moved hW.alike hK, mN_warm hW hN⟩⟩ rfl rfl hl.1 rfl (lv_room (Nat.le_of_ble_eq_true rfl)) dX0_start_49 ⟨Nat.le_of_ble_eq_true rfl, Nat.le_of_ble_eq_true rfl⟩) hS (fun q _ h => hFc q h) hFc (fun v_18 t H locs ht hvm hw_18 hP _ _ hS => ?_)
        have hP := kt_heap2 ht hP
        clear ht hFc
        have hP : va_P (dC, dI) vwCl (mW cI cZ cS cC cJ a v_18) H := hP
        have hI := hI.trans hw_18
        exact W.vret hx hb hr (fun t ht hW => ⟨⟨v_18, rfl, hI, kt_heap ht hP⟩, hS.F ht⟩) hS.2.2 dX0_start_52
      · refine lv_iconst (v := 5) hx hb dX0_start_41 (by decide) ?_
        refine lv_goto (tgt := 46) hx hb dX0_start_42 (by decide) ?_
        refine lv_iload_n hx hb dX0_start_46 rfl (lv_at hl 3 rfl) ?_
        refine lv_aload hx hb dX0_start_47 (lv_at hl 4 rfl) ?_
        have hFc := mA_free (a := a) hS hA hAc
        refine va_callv (va_runV (As := [.int 5, .int p2, .ref (a 5)]) (rest := []) ⟨hx, hb, hml, hown, hts⟩ (c_X0_beginStep l dC dI cI cZ cS cC cJ a v_15 H.size i hi 5 p2 hD hI.self) (cwV 3 hts (gV (fun w h => List.mem_cons_of_mem _ h) kw_t2_30 kw_t2_31 kw_t2_32 kw_t1_5 kw_t2_33) rfl rfl rfl (by decide +kernel) ⟨Nat.le_of_ble_eq_true rfl, Nat.le_of_ble_eq_true rfl⟩) ⟨fun av U g mk q => by obtain ⟨q0, q1, qP, qK, qN⟩ := q; exact ⟨q0, q1, qP, va_K.moved (u := U) (U := U.calling g mk av) (Vm.Alike.refl U.vm) qK, mN_same qN⟩, va_recv hK hP (ci := 0) (q0 := (9 + 3 * i)) rfl (at_C hi), fun U hU hW => ⟨rfl, by rw [hU], by rw [hU]; exact hP, va_K.moved hW.alike hK, mN_warm hW hN⟩⟩ rfl rfl hl.1 rfl (lv_room (Nat.le_of_ble_eq_true rfl)) dX0_start_49 ⟨Nat.le_of_ble_eq_true rfl, Nat.le_of_ble_eq_true rfl⟩) hS (fun q _ h => hFc q h) hFc (fun v_19 t H locs ht hvm hw_19 hP _ _ hS => ?_)
        have hP := kt_heap2 ht hP
        clear ht hFc
        have hP : va_P (dC, dI) vwCl (mW cI cZ cS cC cJ a v_19) H := hP
        have hI := hI.trans hw_19
        exact W.vret hx hb hr (fun t ht hW => ⟨⟨v_19, rfl, hI, kt_heap ht hP⟩, hS.F ht⟩) hS.2.2 dX0_start_52

set_option maxHeartbeats 4000000 in
set_option maxRecDepth 100000 in
theorem c_X0_hurry (l : Launch) (dC : Nat → ClassId) (dI : Nat → Nat → Nat) (cI cZ cS cC cJ : ClassId) (a : Nat → Nat) (v : Nat → Nat → Int32) (sz : Nat) (i : Nat) (hi : i < 12) (p0 : Int32) (hD : mDD a) (hI : kI v v) : Met l yX0_hurry (Cond.code yX0_hurry cX0_hurry 3 none :: WW) ({ frames := 3, cells := 0, slots := 0, locals := 90 }) (va_Pc [.ref (a (9 + 3 * i)), .int p0, .ref (a 5)] (fun U => U.heap.size = sz ∧ va_P (dC, dI) vwCl (mW cI cZ cS cC cJ a v) U.heap ∧ va_K (dC, dI) vwCl [(cI, .int), (cZ, .boolean), (cS, .object RX3), (cC, .object RX0), (cJ, .long)] U ∧ mN U)) (va_Qv (fun (u : Nat → Nat → Int32) => kI v u) (fun (u : Nat → Nat → Int32) (t : State) => va_P (dC, dI) vwCl (mW cI cZ cS cC cJ a u) t.heap) (mA a sz)) 0 0 (mA a sz) := by
  refine Met.ofW (cc := cX0_hurry) (maxL := 3) (ret := none) (by decide) rfl ?_
  intro p e s m args below meth c s₁ B hml hv
  obtain ⟨rfl, hsz, hP, hK, hN⟩ := hv
  have hx := B.exec
  have hb := B.bytes
  have hr := B.returns
  have hts := atoms_spec (ws := Cond.code yX0_hurry cX0_hurry 3 none :: WW) B.pre
  have hown : s.vm.findClass RX0 = some m.cls := findClass_of_methodNamed B.named
  have hlocks := B.notSynchronized
  subst hsz
  have hAc : ∀ c, c < 81 → mA a s.heap.size (a c) := fun c h => Or.inl ⟨c, h, rfl⟩
  have hA : ∀ q : Nat, s.heap.size ≤ q → mA a s.heap.size q := fun q h => Or.inr h
  generalize hAe : mA a s.heap.size = A at hAc hA ⊢
  have hS : va_S A s.heap s.heap [] := va_S.rf
  have hl := lv_entry ([.ref (a (9 + 3 * i)), .int p0, .ref (a 5)]) (n := 3) (Nat.le_of_ble_eq_true rfl)
  rw [lg_entry_eq]
  generalize (lg_sl ([.ref (a (9 + 3 * i)), .int p0, .ref (a 5)]) ++ List.replicate (3 - (lg_sl ([.ref (a (9 + 3 * i)), .int p0, .ref (a 5)])).length) Slot.unset).toArray = ls at hl ⊢
  have hl : lv_has ls 3 [(0, .ref (a (9 + 3 * i))), (1, .int p0), (2, .ref (a 5))] := hl
  refine lv_aload_n hx hb dX0_hurry_0 rfl (lv_at hl 0 rfl) ?_
  refine va_get (D := (dC, dI)) (ci := 0) (v := .ref (a (10 + 3 * i))) (C := RX0) (T := TX0) (N := 9) hx hb hts (fun w h => List.mem_cons_of_mem _ (inWX0 w h)) hown hK hP (9 + 3 * i) (at_C hi) rfl 0 (by decide) (hts _ (List.mem_cons_of_mem _ kw_t1_124)) (fun _ h9 => h9) rfl dX0_hurry_1 ?_
  refine va_get (D := (dC, dI)) (ci := 3) (v := .int (v (10 + 3 * i) 0)) (C := RX3) (T := TX3) (N := 10) hx hb hts (fun w h => List.mem_cons_of_mem _ (inWX3 w h)) hown hK hP (10 + 3 * i) (at_S hi) rfl 0 (by decide) (hts _ (List.mem_cons_of_mem _ kw_t1_81)) (fun _ h9 => h9) rfl dX0_hurry_4 ?_
  refine lv_topi (fun t_1 et_1 => ?_)
  refine lv_iconst (v := 1) hx hb dX0_hurry_7 (by decide) ?_
  refine lv_icmp_ne (tgt := 12) hx hb dX0_hurry_8 (by decide) (fun c_2 => ?_) (fun c_2 => ?_)
  · refine lv_aload_n hx hb dX0_hurry_12 rfl (lv_at hl 0 rfl) ?_
    refine va_get (D := (dC, dI)) (ci := 0) (v := .int (v (9 + 3 * i) 4)) (C := RX0) (T := TX0) (N := 9) hx hb hts (fun w h => List.mem_cons_of_mem _ (inWX0 w h)) hown hK hP (9 + 3 * i) (at_C hi) rfl 4 (by decide) (hts _ (List.mem_cons_of_mem _ kw_t1_130)) (fun _ h9 => h9) rfl dX0_hurry_13 ?_
    refine lv_topi (fun t_3 et_3 => ?_)
    refine lv_iconst (v := 1) hx hb dX0_hurry_16 (by decide) ?_
    refine lv_icmp_ne (tgt := 28) hx hb dX0_hurry_17 (by decide) (fun c_4 => ?_) (fun c_4 => ?_)
    · refine lv_aload_n hx hb dX0_hurry_28 rfl (lv_at hl 0 rfl) ?_
      refine va_get (D := (dC, dI)) (ci := 0) (v := .int (v (9 + 3 * i) 4)) (C := RX0) (T := TX0) (N := 9) hx hb hts (fun w h => List.mem_cons_of_mem _ (inWX0 w h)) hown hK hP (9 + 3 * i) (at_C hi) rfl 4 (by decide) (hts _ (List.mem_cons_of_mem _ kw_t1_130)) (fun _ h9 => h9) rfl dX0_hurry_29 ?_
      refine lv_topi (fun t_5 et_5 => ?_)
      obtain rfl : t_3 = t_5 := et_3.trans et_5.symm
      refine lv_iconst (v := 2) hx hb dX0_hurry_32 (by decide) ?_
      refine lv_icmp_eq (tgt := 44) hx hb dX0_hurry_33 (by decide) (fun c_6 => ?_) (fun c_6 => ?_)
      · refine lv_aload_n hx hb dX0_hurry_44 rfl (lv_at hl 0 rfl) ?_
        refine lv_iconst (v := 0) hx hb dX0_hurry_45 (by decide) ?_
        refine va_put (D := (dC, dI)) (ci := 0) (v := .int 0) (ty := .boolean) (C := RX0) (T := TX0) (N := 9) hx hb hts (fun w h => List.mem_cons_of_mem _ (inWX0 w h)) tyX0 tyX0_ok nmX0 hown hK hP (mD_of hD hAc) hS (9 + 3 * i) (at_C hi) rfl 8 (by decide) (hts _ (List.mem_cons_of_mem _ kw_t1_137)) (fun _ h9 => h9) rfl (by decide +kernel) rfl rfl (Nat.le_of_ble_eq_true rfl) dX0_hurry_46 (fun H locs hP _ hS => ?_)
        obtain ⟨v_7, ev_7⟩ : ∃ z, z = mU v (9 + 3 * i) (upd (v (9 + 3 * i)) 8 0) := ⟨_, rfl⟩
        have hP : va_P (dC, dI) vwCl (mW cI cZ cS cC cJ a v_7) H := by rw [ev_7]; exact mW_put hP (by omega) (by rw [gE_C hi]; rfl)
        have hI := hI.put ev_7 (by omega)
        refine lv_aload_n hx hb dX0_hurry_49 rfl (lv_at hl 0 rfl) ?_
        refine lv_iconst (v := 4) hx hb dX0_hurry_50 (by decide) ?_
        refine lv_iload_n hx hb dX0_hurry_51 rfl (lv_at hl 1 rfl) ?_
        refine lv_aload_n hx hb dX0_hurry_52 rfl (lv_at hl 2 rfl) ?_
        have hFc := mA_free (a := a) hS hA hAc
        refine va_callv (va_runV (As := [.int 4, .int p0, .ref (a 5)]) (rest := []) ⟨hx, hb, hml, hown, hts⟩ (c_X0_beginStep l dC dI cI cZ cS cC cJ a v_7 H.size i hi 4 p0 hD hI.self) (cwV 3 hts (gV (fun w h => List.mem_cons_of_mem _ h) kw_t2_30 kw_t2_31 kw_t2_32 kw_t1_5 kw_t2_33) rfl rfl rfl (by decide +kernel) ⟨Nat.le_of_ble_eq_true rfl, Nat.le_of_ble_eq_true rfl⟩) ⟨fun av U g mk q => by obtain ⟨q0, q1, qP, qK, qN⟩ := q; exact ⟨q0, q1, qP, va_K.moved (u := U) (U := U.calling g mk av) (Vm.Alike.refl U.vm) qK, mN_same qN⟩, va_recv hK hP (ci := 0) (q0 := (9 + 3 * i)) rfl (at_C hi), fun U hU hW => ⟨rfl, by rw [hU], by rw [hU]; exact hP, va_K.moved hW.alike hK, mN_warm hW hN⟩⟩ rfl rfl hl.1 rfl (lv_room (Nat.le_of_ble_eq_true rfl)) dX0_hurry_53 ⟨Nat.le_of_ble_eq_true rfl, Nat.le_of_ble_eq_true rfl⟩) hS (fun q _ h => hFc q h) hFc (fun v_8 t H locs ht hvm hw_8 hP _ _ hS => ?_)
        have hP := kt_heap2 ht hP
        clear ht hFc
        have hP : va_P (dC, dI) vwCl (mW cI cZ cS cC cJ a v_8) H := hP
        have hI := hI.trans hw_8
        exact W.vret hx hb hr (fun t ht hW => ⟨⟨v_8, rfl, hI, kt_heap ht hP⟩, hS.F ht⟩) hS.2.2 dX0_hurry_56
      · refine lv_aload_n hx hb dX0_hurry_36 rfl (lv_at hl 0 rfl) ?_
        refine va_get (D := (dC, dI)) (ci := 0) (v := .int (v (9 + 3 * i) 4)) (C := RX0) (T := TX0) (N := 9) hx hb hts (fun w h => List.mem_cons_of_mem _ (inWX0 w h)) hown hK hP (9 + 3 * i) (at_C hi) rfl 4 (by decide) (hts _ (List.mem_cons_of_mem _ kw_t1_130)) (fun _ h9 => h9) rfl dX0_hurry_37 ?_
        refine lv_topi (fun t_9 et_9 => ?_)
        obtain rfl : t_3 = t_9 := et_3.trans et_9.symm
        refine lv_iconst (v := 3) hx hb dX0_hurry_40 (by decide) ?_
        refine lv_icmp_ne (tgt := 56) hx hb dX0_hurry_41 (by decide) (fun c_10 => ?_) (fun c_10 => ?_)
        · exact W.vret hx hb hr (fun t ht hW => ⟨⟨v, rfl, hI, kt_heap ht hP⟩, hS.F ht⟩) hS.2.2 dX0_hurry_56
        · refine lv_aload_n hx hb dX0_hurry_44 rfl (lv_at hl 0 rfl) ?_
          refine lv_iconst (v := 0) hx hb dX0_hurry_45 (by decide) ?_
          refine va_put (D := (dC, dI)) (ci := 0) (v := .int 0) (ty := .boolean) (C := RX0) (T := TX0) (N := 9) hx hb hts (fun w h => List.mem_cons_of_mem _ (inWX0 w h)) tyX0 tyX0_ok nmX0 hown hK hP (mD_of hD hAc) hS (9 + 3 * i) (at_C hi) rfl 8 (by decide) (hts _ (List.mem_cons_of_mem _ kw_t1_137)) (fun _ h9 => h9) rfl (by decide +kernel) rfl rfl (Nat.le_of_ble_eq_true rfl) dX0_hurry_46 (fun H locs hP _ hS => ?_)
          obtain ⟨v_11, ev_11⟩ : ∃ z, z = mU v (9 + 3 * i) (upd (v (9 + 3 * i)) 8 0) := ⟨_, rfl⟩
          have hP : va_P (dC, dI) vwCl (mW cI cZ cS cC cJ a v_11) H := by rw [ev_11]; exact mW_put hP (by omega) (by rw [gE_C hi]; rfl)
          have hI := hI.put ev_11 (by omega)
          refine lv_aload_n hx hb dX0_hurry_49 rfl (lv_at hl 0 rfl) ?_
          refine lv_iconst (v := 4) hx hb dX0_hurry_50 (by decide) ?_
          refine lv_iload_n hx hb dX0_hurry_51 rfl (lv_at hl 1 rfl) ?_
          refine lv_aload_n hx hb dX0_hurry_52 rfl (lv_at hl 2 rfl) ?_
          have hFc := mA_free (a := a) hS hA hAc
          refine va_callv (va_runV (As := [.int 4, .int p0, .ref (a 5)]) (rest := []) ⟨hx, hb, hml, hown, hts⟩ (c_X0_beginStep l dC dI cI cZ cS cC cJ a v_11 H.size i hi 4 p0 hD hI.self) (cwV 3 hts (gV (fun w h => List.mem_cons_of_mem _ h) kw_t2_30 kw_t2_31 kw_t2_32 kw_t1_5 kw_t2_33) rfl rfl rfl (by decide +kernel) ⟨Nat.le_of_ble_eq_true rfl, Nat.le_of_ble_eq_true rfl⟩) ⟨fun av U g mk q => by obtain ⟨q0, q1, qP, qK, qN⟩ := q; exact ⟨q0, q1, qP, va_K.moved (u := U) (U := U.calling g mk av) (Vm.Alike.refl U.vm) qK, mN_same qN⟩, va_recv hK hP (ci := 0) (q0 := (9 + 3 * i)) rfl (at_C hi), fun U hU hW => ⟨rfl, by rw [hU], by rw [hU]; exact hP, va_K.moved hW.alike hK, mN_warm hW hN⟩⟩ rfl rfl hl.1 rfl (lv_room (Nat.le_of_ble_eq_true rfl)) dX0_hurry_53 ⟨Nat.le_of_ble_eq_true rfl, Nat.le_of_ble_eq_true rfl⟩) hS (fun q _ h => hFc q h) hFc (fun v_12 t H locs ht hvm hw_12 hP _ _ hS => ?_)
          have hP := kt_heap2 ht hP
          clear ht hFc
          have hP : va_P (dC, dI) vwCl (mW cI cZ cS cC cJ a v_12) H := hP
          have hI := hI.trans hw_12
          exact W.vret hx hb hr (fun t ht hW => ⟨⟨v_12, rfl, hI, kt_heap ht hP⟩, hS.F ht⟩) hS.2.2 dX0_hurry_56
    · refine lv_aload_n hx hb dX0_hurry_20 rfl (lv_at hl 0 rfl) ?_
      refine lv_iconst (v := 1) hx hb dX0_hurry_21 (by decide) ?_
      refine va_put (D := (dC, dI)) (ci := 0) (v := .int 1) (ty := .boolean) (C := RX0) (T := TX0) (N := 9) hx hb hts (fun w h => List.mem_cons_of_mem _ (inWX0 w h)) tyX0 tyX0_ok nmX0 hown hK hP (mD_of hD hAc) hS (9 + 3 * i) (at_C hi) rfl 8 (by decide) (hts _ (List.mem_cons_of_mem _ kw_t1_137)) (fun _ h9 => h9) rfl (by decide +kernel) rfl rfl (Nat.le_of_ble_eq_true rfl) dX0_hurry_22 (fun H locs hP _ hS => ?_)
      obtain ⟨v_13, ev_13⟩ : ∃ z, z = mU v (9 + 3 * i) (upd (v (9 + 3 * i)) 8 1) := ⟨_, rfl⟩
      have hP : va_P (dC, dI) vwCl (mW cI cZ cS cC cJ a v_13) H := by rw [ev_13]; exact mW_put hP (by omega) (by rw [gE_C hi]; rfl)
      have hI := hI.put ev_13 (by omega)
      refine lv_goto (tgt := 56) hx hb dX0_hurry_25 (by decide) ?_
      exact W.vret hx hb hr (fun t ht hW => ⟨⟨v_13, rfl, hI, kt_heap ht hP⟩, hS.F ht⟩) hS.2.2 dX0_hurry_56
  · exact W.vret hx hb hr (fun t ht hW => ⟨⟨v, rfl, hI, kt_heap ht hP⟩, hS.F ht⟩) hS.2.2 dX0_hurry_11
